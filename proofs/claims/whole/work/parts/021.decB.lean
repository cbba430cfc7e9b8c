theorem dW_init_0 : decode cW_init 0 = .ok (.aload_n 0, 1) := by decide +kernel
theorem dW_init_1 : decode cW_init 1 = .ok (.invokespecial 3, 3) := by decide +kernel
theorem dW_init_4 : decode cW_init 4 = .ok (.aload_n 0, 1) := by decide +kernel
theorem dW_init_5 : decode cW_init 5 = .ok (.iconst 1, 1) := by decide +kernel
theorem dW_init_6 : decode cW_init 6 = .ok (.putfield 9, 3) := by decide +kernel
theorem dW_init_9 : decode cW_init 9 = .ok (.aload_n 0, 1) := by decide +kernel
theorem dW_init_10 : decode cW_init 10 = .ok (.iconst (-1), 1) := by decide +kernel
theorem dW_init_11 : decode cW_init 11 = .ok (.putfield 15, 3) := by decide +kernel
theorem dW_init_14 : decode cW_init 14 = .ok (.return_, 1) := by decide +kernel
theorem dF_init_0 : decode cF_init 0 = .ok (.aload_n 0, 1) := by decide +kernel
theorem dF_init_1 : decode cF_init 1 = .ok (.invokespecial 3, 3) := by decide +kernel
theorem dF_init_4 : decode cF_init 4 = .ok (.aload_n 0, 1) := by decide +kernel
theorem dF_init_5 : decode cF_init 5 = .ok (.iconst 3, 1) := by decide +kernel
theorem dF_init_6 : decode cF_init 6 = .ok (.newarray .boolean, 2) := by decide +kernel
theorem dF_init_8 : decode cF_init 8 = .ok (.putfield 11, 3) := by decide +kernel
theorem dF_init_11 : decode cF_init 11 = .ok (.aload_n 0, 1) := by decide +kernel
theorem dF_init_12 : decode cF_init 12 = .ok (.iconst 3, 1) := by decide +kernel
theorem dF_init_13 : decode cF_init 13 = .ok (.newarray .int, 2) := by decide +kernel
theorem dF_init_15 : decode cF_init 15 = .ok (.putfield 15, 3) := by decide +kernel
theorem dF_init_18 : decode cF_init 18 = .ok (.aload_n 0, 1) := by decide +kernel
theorem dF_init_19 : decode cF_init 19 = .ok (.iconst 3, 1) := by decide +kernel
theorem dF_init_20 : decode cF_init 20 = .ok (.newarray .int, 2) := by decide +kernel
theorem dF_init_22 : decode cF_init 22 = .ok (.putfield 19, 3) := by decide +kernel
theorem dF_init_25 : decode cF_init 25 = .ok (.return_, 1) := by decide +kernel
theorem dB_init_0 : decode cB_init 0 = .ok (.aload_n 0, 1) := by decide +kernel
theorem dB_init_1 : decode cB_init 1 = .ok (.invokespecial 3, 3) := by decide +kernel
theorem dB_init_4 : decode cB_init 4 = .ok (.aload_n 0, 1) := by decide +kernel
theorem dB_init_5 : decode cB_init 5 = .ok (.iconst 4, 1) := by decide +kernel
theorem dB_init_6 : decode cB_init 6 = .ok (.newarray .long, 2) := by decide +kernel
theorem dB_init_8 : decode cB_init 8 = .ok (.putfield 11, 3) := by decide +kernel
theorem dB_init_11 : decode cB_init 11 = .ok (.aload_n 0, 1) := by decide +kernel
theorem dB_init_12 : decode cB_init 12 = .ok (.iconst 4, 1) := by decide +kernel
theorem dB_init_13 : decode cB_init 13 = .ok (.newarray .int, 2) := by decide +kernel
theorem dB_init_15 : decode cB_init 15 = .ok (.putfield 15, 3) := by decide +kernel
theorem dB_init_18 : decode cB_init 18 = .ok (.aload_n 0, 1) := by decide +kernel
theorem dB_init_19 : decode cB_init 19 = .ok (.iconst 0, 1) := by decide +kernel
theorem dB_init_20 : decode cB_init 20 = .ok (.putfield 19, 3) := by decide +kernel
theorem dB_init_23 : decode cB_init 23 = .ok (.aload_n 0, 1) := by decide +kernel
theorem dB_init_24 : decode cB_init 24 = .ok (.iconst 0, 1) := by decide +kernel
theorem dB_init_25 : decode cB_init 25 = .ok (.putfield 23, 3) := by decide +kernel
theorem dB_init_28 : decode cB_init 28 = .ok (.aload_n 0, 1) := by decide +kernel
theorem dB_init_29 : decode cB_init 29 = .ok (.aconst_null, 1) := by decide +kernel
theorem dB_init_30 : decode cB_init 30 = .ok (.putfield 26, 3) := by decide +kernel
theorem dB_init_33 : decode cB_init 33 = .ok (.aload_n 0, 1) := by decide +kernel
theorem dB_init_34 : decode cB_init 34 = .ok (.iconst (-1), 1) := by decide +kernel
theorem dB_init_35 : decode cB_init 35 = .ok (.putfield 30, 3) := by decide +kernel
theorem dB_init_38 : decode cB_init 38 = .ok (.aload_n 0, 1) := by decide +kernel
theorem dB_init_39 : decode cB_init 39 = .ok (.iconst 0, 1) := by decide +kernel
theorem dB_init_40 : decode cB_init 40 = .ok (.putfield 33, 3) := by decide +kernel
theorem dB_init_43 : decode cB_init 43 = .ok (.aload_n 0, 1) := by decide +kernel
theorem dB_init_44 : decode cB_init 44 = .ok (.iconst 0, 1) := by decide +kernel
theorem dB_init_45 : decode cB_init 45 = .ok (.putfield 36, 3) := by decide +kernel
theorem dB_init_48 : decode cB_init 48 = .ok (.aload_n 0, 1) := by decide +kernel
theorem dB_init_49 : decode cB_init 49 = .ok (.bipush 8, 2) := by decide +kernel
theorem dB_init_51 : decode cB_init 51 = .ok (.newarray .int, 2) := by decide +kernel
theorem dB_init_53 : decode cB_init 53 = .ok (.putfield 39, 3) := by decide +kernel
theorem dB_init_56 : decode cB_init 56 = .ok (.aload_n 0, 1) := by decide +kernel
theorem dB_init_57 : decode cB_init 57 = .ok (.iconst 2, 1) := by decide +kernel
theorem dB_init_58 : decode cB_init 58 = .ok (.newarray .boolean, 2) := by decide +kernel
theorem dB_init_60 : decode cB_init 60 = .ok (.putfield 42, 3) := by decide +kernel
theorem dB_init_63 : decode cB_init 63 = .ok (.aload_n 0, 1) := by decide +kernel
theorem dB_init_64 : decode cB_init 64 = .ok (.iload_n 1, 1) := by decide +kernel
theorem dB_init_65 : decode cB_init 65 = .ok (.putfield 46, 3) := by decide +kernel
theorem dB_init_68 : decode cB_init 68 = .ok (.return_, 1) := by decide +kernel
theorem dP_init_0 : decode cP_init 0 = .ok (.aload_n 0, 1) := by decide +kernel
theorem dP_init_1 : decode cP_init 1 = .ok (.invokespecial 3, 3) := by decide +kernel
theorem dP_init_4 : decode cP_init 4 = .ok (.aload_n 0, 1) := by decide +kernel
theorem dP_init_5 : decode cP_init 5 = .ok (.bipush 8, 2) := by decide +kernel
theorem dP_init_7 : decode cP_init 7 = .ok (.newarray .int, 2) := by decide +kernel
theorem dP_init_9 : decode cP_init 9 = .ok (.putfield 11, 3) := by decide +kernel
theorem dP_init_12 : decode cP_init 12 = .ok (.return_, 1) := by decide +kernel
theorem dF_isInUse_0 : decode cF_isInUse 0 = .ok (.iload_n 1, 1) := by decide +kernel
theorem dF_isInUse_1 : decode cF_isInUse 1 = .ok (.iconst 3, 1) := by decide +kernel
theorem dF_isInUse_2 : decode cF_isInUse 2 = .ok (.invokestatic 22, 3) := by decide +kernel
theorem dF_isInUse_5 : decode cF_isInUse 5 = .ok (.ifCond .eq 16, 3) := by decide +kernel
theorem dF_isInUse_8 : decode cF_isInUse 8 = .ok (.aload_n 0, 1) := by decide +kernel
theorem dF_isInUse_9 : decode cF_isInUse 9 = .ok (.getfield 11, 3) := by decide +kernel
theorem dF_isInUse_12 : decode cF_isInUse 12 = .ok (.iload_n 1, 1) := by decide +kernel
theorem dF_isInUse_13 : decode cF_isInUse 13 = .ok (.baload, 1) := by decide +kernel
theorem dF_isInUse_14 : decode cF_isInUse 14 = .ok (.ifCond .eq 7, 3) := by decide +kernel
theorem dF_isInUse_17 : decode cF_isInUse 17 = .ok (.iconst 1, 1) := by decide +kernel
theorem dF_isInUse_18 : decode cF_isInUse 18 = .ok (.goto 4, 3) := by decide +kernel
theorem dF_isInUse_21 : decode cF_isInUse 21 = .ok (.iconst 0, 1) := by decide +kernel
theorem dF_isInUse_22 : decode cF_isInUse 22 = .ok (.ireturn, 1) := by decide +kernel
theorem dF_edge_0 : decode cF_edge 0 = .ok (.iload_n 1, 1) := by decide +kernel
theorem dF_edge_1 : decode cF_edge 1 = .ok (.iconst 3, 1) := by decide +kernel
theorem dF_edge_2 : decode cF_edge 2 = .ok (.invokestatic 22, 3) := by decide +kernel
theorem dF_edge_5 : decode cF_edge 5 = .ok (.ifCond .ne 5, 3) := by decide +kernel
theorem dF_edge_8 : decode cF_edge 8 = .ok (.iconst (-1), 1) := by decide +kernel
theorem dF_edge_9 : decode cF_edge 9 = .ok (.ireturn, 1) := by decide +kernel
theorem dF_edge_10 : decode cF_edge 10 = .ok (.iload_n 2, 1) := by decide +kernel
theorem dF_edge_11 : decode cF_edge 11 = .ok (.ifCond .eq 12, 3) := by decide +kernel
theorem dF_edge_14 : decode cF_edge 14 = .ok (.aload_n 0, 1) := by decide +kernel
theorem dF_edge_15 : decode cF_edge 15 = .ok (.getfield 19, 3) := by decide +kernel
theorem dF_edge_18 : decode cF_edge 18 = .ok (.iload_n 1, 1) := by decide +kernel
theorem dF_edge_19 : decode cF_edge 19 = .ok (.iaload, 1) := by decide +kernel
theorem dF_edge_20 : decode cF_edge 20 = .ok (.goto 9, 3) := by decide +kernel
theorem dF_edge_23 : decode cF_edge 23 = .ok (.aload_n 0, 1) := by decide +kernel
theorem dF_edge_24 : decode cF_edge 24 = .ok (.getfield 15, 3) := by decide +kernel
theorem dF_edge_27 : decode cF_edge 27 = .ok (.iload_n 1, 1) := by decide +kernel
theorem dF_edge_28 : decode cF_edge 28 = .ok (.iaload, 1) := by decide +kernel
theorem dF_edge_29 : decode cF_edge 29 = .ok (.ireturn, 1) := by decide +kernel
theorem dB_soundByte_0 : decode cB_soundByte 0 = .ok (.iload_n 1, 1) := by decide +kernel
theorem dB_soundByte_1 : decode cB_soundByte 1 = .ok (.iload_n 2, 1) := by decide +kernel
theorem dB_soundByte_2 : decode cB_soundByte 2 = .ok (.invokestatic 59, 3) := by decide +kernel
theorem dB_soundByte_5 : decode cB_soundByte 5 = .ok (.ifCond .eq 16, 3) := by decide +kernel
theorem dB_soundByte_8 : decode cB_soundByte 8 = .ok (.aload_n 0, 1) := by decide +kernel
theorem dB_soundByte_9 : decode cB_soundByte 9 = .ok (.getfield 39, 3) := by decide +kernel
theorem dB_soundByte_12 : decode cB_soundByte 12 = .ok (.iload_n 1, 1) := by decide +kernel
theorem dB_soundByte_13 : decode cB_soundByte 13 = .ok (.iconst 4, 1) := by decide +kernel
theorem dB_soundByte_14 : decode cB_soundByte 14 = .ok (.imul, 1) := by decide +kernel
theorem dB_soundByte_15 : decode cB_soundByte 15 = .ok (.iload_n 2, 1) := by decide +kernel
theorem dB_soundByte_16 : decode cB_soundByte 16 = .ok (.iadd, 1) := by decide +kernel
theorem dB_soundByte_17 : decode cB_soundByte 17 = .ok (.iaload, 1) := by decide +kernel
theorem dB_soundByte_18 : decode cB_soundByte 18 = .ok (.goto 4, 3) := by decide +kernel
theorem dB_soundByte_21 : decode cB_soundByte 21 = .ok (.iconst (-1), 1) := by decide +kernel
theorem dB_soundByte_22 : decode cB_soundByte 22 = .ok (.ireturn, 1) := by decide +kernel
theorem dP_row_0 : decode cP_row 0 = .ok (.iload_n 1, 1) := by decide +kernel
theorem dP_row_1 : decode cP_row 1 = .ok (.bipush 8, 2) := by decide +kernel
theorem dP_row_3 : decode cP_row 3 = .ok (.invokestatic 15, 3) := by decide +kernel
theorem dP_row_6 : decode cP_row 6 = .ok (.ifCond .eq 12, 3) := by decide +kernel
theorem dP_row_9 : decode cP_row 9 = .ok (.aload_n 0, 1) := by decide +kernel
theorem dP_row_10 : decode cP_row 10 = .ok (.getfield 11, 3) := by decide +kernel
theorem dP_row_13 : decode cP_row 13 = .ok (.iload_n 1, 1) := by decide +kernel
theorem dP_row_14 : decode cP_row 14 = .ok (.iaload, 1) := by decide +kernel
theorem dP_row_15 : decode cP_row 15 = .ok (.goto 4, 3) := by decide +kernel
theorem dP_row_18 : decode cP_row 18 = .ok (.iconst (-1), 1) := by decide +kernel
theorem dP_row_19 : decode cP_row 19 = .ok (.ireturn, 1) := by decide +kernel
theorem dB_hasSentenceOf_0 : decode cB_hasSentenceOf 0 = .ok (.iconst 0, 1) := by decide +kernel
theorem dB_hasSentenceOf_1 : decode cB_hasSentenceOf 1 = .ok (.istore_n 2, 1) := by decide +kernel
theorem dB_hasSentenceOf_2 : decode cB_hasSentenceOf 2 = .ok (.iload_n 2, 1) := by decide +kernel
theorem dB_hasSentenceOf_3 : decode cB_hasSentenceOf 3 = .ok (.aload_n 0, 1) := by decide +kernel
theorem dB_hasSentenceOf_4 : decode cB_hasSentenceOf 4 = .ok (.getfield 19, 3) := by decide +kernel
theorem dB_hasSentenceOf_7 : decode cB_hasSentenceOf 7 = .ok (.if_icmp .ge 26, 3) := by decide +kernel
theorem dB_hasSentenceOf_10 : decode cB_hasSentenceOf 10 = .ok (.iload_n 2, 1) := by decide +kernel
theorem dB_hasSentenceOf_11 : decode cB_hasSentenceOf 11 = .ok (.iconst 4, 1) := by decide +kernel
theorem dB_hasSentenceOf_12 : decode cB_hasSentenceOf 12 = .ok (.if_icmp .ge 21, 3) := by decide +kernel
theorem dB_hasSentenceOf_15 : decode cB_hasSentenceOf 15 = .ok (.aload_n 0, 1) := by decide +kernel
theorem dB_hasSentenceOf_16 : decode cB_hasSentenceOf 16 = .ok (.getfield 15, 3) := by decide +kernel
theorem dB_hasSentenceOf_19 : decode cB_hasSentenceOf 19 = .ok (.iload_n 2, 1) := by decide +kernel
theorem dB_hasSentenceOf_20 : decode cB_hasSentenceOf 20 = .ok (.iaload, 1) := by decide +kernel
theorem dB_hasSentenceOf_21 : decode cB_hasSentenceOf 21 = .ok (.iload_n 1, 1) := by decide +kernel
theorem dB_hasSentenceOf_22 : decode cB_hasSentenceOf 22 = .ok (.if_icmp .ne 5, 3) := by decide +kernel
theorem dB_hasSentenceOf_25 : decode cB_hasSentenceOf 25 = .ok (.iconst 1, 1) := by decide +kernel
theorem dB_hasSentenceOf_26 : decode cB_hasSentenceOf 26 = .ok (.ireturn, 1) := by decide +kernel
theorem dB_hasSentenceOf_27 : decode cB_hasSentenceOf 27 = .ok (.iinc 2 1, 3) := by decide +kernel
theorem dB_hasSentenceOf_30 : decode cB_hasSentenceOf 30 = .ok (.goto (-28), 3) := by decide +kernel
theorem dB_hasSentenceOf_33 : decode cB_hasSentenceOf 33 = .ok (.iconst 0, 1) := by decide +kernel
theorem dB_hasSentenceOf_34 : decode cB_hasSentenceOf 34 = .ok (.ireturn, 1) := by decide +kernel
theorem dW_isOn_0 : decode cW_isOn 0 = .ok (.aload_n 0, 1) := by decide +kernel
theorem dW_isOn_1 : decode cW_isOn 1 = .ok (.getfield 9, 3) := by decide +kernel
theorem dW_isOn_4 : decode cW_isOn 4 = .ok (.ireturn, 1) := by decide +kernel
theorem dW_planCut_0 : decode cW_planCut 0 = .ok (.aload_n 0, 1) := by decide +kernel
theorem dW_planCut_1 : decode cW_planCut 1 = .ok (.iload_n 1, 1) := by decide +kernel
theorem dW_planCut_2 : decode cW_planCut 2 = .ok (.putfield 15, 3) := by decide +kernel
theorem dW_planCut_5 : decode cW_planCut 5 = .ok (.return_, 1) := by decide +kernel
theorem dW_turnOn_0 : decode cW_turnOn 0 = .ok (.aload_n 0, 1) := by decide +kernel
theorem dW_turnOn_1 : decode cW_turnOn 1 = .ok (.getfield 9, 3) := by decide +kernel
theorem dW_turnOn_4 : decode cW_turnOn 4 = .ok (.ifCond .ne 7, 3) := by decide +kernel
theorem dW_turnOn_7 : decode cW_turnOn 7 = .ok (.iconst 1, 1) := by decide +kernel
theorem dW_turnOn_8 : decode cW_turnOn 8 = .ok (.goto 4, 3) := by decide +kernel
theorem dW_turnOn_11 : decode cW_turnOn 11 = .ok (.iconst 0, 1) := by decide +kernel
theorem dW_turnOn_12 : decode cW_turnOn 12 = .ok (.istore_n 1, 1) := by decide +kernel
theorem dW_turnOn_13 : decode cW_turnOn 13 = .ok (.aload_n 0, 1) := by decide +kernel
theorem dW_turnOn_14 : decode cW_turnOn 14 = .ok (.iconst 1, 1) := by decide +kernel
theorem dW_turnOn_15 : decode cW_turnOn 15 = .ok (.putfield 9, 3) := by decide +kernel
theorem dW_turnOn_18 : decode cW_turnOn 18 = .ok (.iload_n 1, 1) := by decide +kernel
theorem dW_turnOn_19 : decode cW_turnOn 19 = .ok (.ireturn, 1) := by decide +kernel
theorem dB_addSentence_0 : decode cB_addSentence 0 = .ok (.lload_n 2, 1) := by decide +kernel
theorem dB_addSentence_1 : decode cB_addSentence 1 = .ok (.invokestatic 49, 3) := by decide +kernel
theorem dB_addSentence_4 : decode cB_addSentence 4 = .ok (.istore 4, 2) := by decide +kernel
theorem dB_addSentence_6 : decode cB_addSentence 6 = .ok (.iload 4, 2) := by decide +kernel
theorem dB_addSentence_8 : decode cB_addSentence 8 = .ok (.ifCond .eq 11, 3) := by decide +kernel
theorem dB_addSentence_11 : decode cB_addSentence 11 = .ok (.aload_n 0, 1) := by decide +kernel
theorem dB_addSentence_12 : decode cB_addSentence 12 = .ok (.getfield 19, 3) := by decide +kernel
theorem dB_addSentence_15 : decode cB_addSentence 15 = .ok (.iconst 4, 1) := by decide +kernel
theorem dB_addSentence_16 : decode cB_addSentence 16 = .ok (.if_icmp .lt 5, 3) := by decide +kernel
theorem dB_addSentence_19 : decode cB_addSentence 19 = .ok (.iconst (-1), 1) := by decide +kernel
theorem dB_addSentence_20 : decode cB_addSentence 20 = .ok (.ireturn, 1) := by decide +kernel
theorem dB_addSentence_21 : decode cB_addSentence 21 = .ok (.aload_n 0, 1) := by decide +kernel
theorem dB_addSentence_22 : decode cB_addSentence 22 = .ok (.getfield 15, 3) := by decide +kernel
theorem dB_addSentence_25 : decode cB_addSentence 25 = .ok (.aload_n 0, 1) := by decide +kernel
theorem dB_addSentence_26 : decode cB_addSentence 26 = .ok (.getfield 19, 3) := by decide +kernel
theorem dB_addSentence_29 : decode cB_addSentence 29 = .ok (.iload_n 1, 1) := by decide +kernel
theorem dB_addSentence_30 : decode cB_addSentence 30 = .ok (.iastore, 1) := by decide +kernel
theorem dB_addSentence_31 : decode cB_addSentence 31 = .ok (.aload_n 0, 1) := by decide +kernel
theorem dB_addSentence_32 : decode cB_addSentence 32 = .ok (.getfield 11, 3) := by decide +kernel
theorem dB_addSentence_35 : decode cB_addSentence 35 = .ok (.aload_n 0, 1) := by decide +kernel
theorem dB_addSentence_36 : decode cB_addSentence 36 = .ok (.getfield 19, 3) := by decide +kernel
theorem dB_addSentence_39 : decode cB_addSentence 39 = .ok (.lload_n 2, 1) := by decide +kernel
theorem dB_addSentence_40 : decode cB_addSentence 40 = .ok (.lastore, 1) := by decide +kernel
theorem dB_addSentence_41 : decode cB_addSentence 41 = .ok (.aload_n 0, 1) := by decide +kernel
theorem dB_addSentence_42 : decode cB_addSentence 42 = .ok (.dup, 1) := by decide +kernel
theorem dB_addSentence_43 : decode cB_addSentence 43 = .ok (.getfield 36, 3) := by decide +kernel
theorem dB_addSentence_46 : decode cB_addSentence 46 = .ok (.iconst 2, 1) := by decide +kernel
theorem dB_addSentence_47 : decode cB_addSentence 47 = .ok (.iload 4, 2) := by decide +kernel
theorem dB_addSentence_49 : decode cB_addSentence 49 = .ok (.iadd, 1) := by decide +kernel
theorem dB_addSentence_50 : decode cB_addSentence 50 = .ok (.iadd, 1) := by decide +kernel
theorem dB_addSentence_51 : decode cB_addSentence 51 = .ok (.putfield 36, 3) := by decide +kernel
theorem dB_addSentence_54 : decode cB_addSentence 54 = .ok (.aload_n 0, 1) := by decide +kernel
theorem dB_addSentence_55 : decode cB_addSentence 55 = .ok (.dup, 1) := by decide +kernel
theorem dB_addSentence_56 : decode cB_addSentence 56 = .ok (.getfield 19, 3) := by decide +kernel
theorem dB_addSentence_59 : decode cB_addSentence 59 = .ok (.iconst 1, 1) := by decide +kernel
theorem dB_addSentence_60 : decode cB_addSentence 60 = .ok (.iadd, 1) := by decide +kernel
theorem dB_addSentence_61 : decode cB_addSentence 61 = .ok (.putfield 19, 3) := by decide +kernel
theorem dB_addSentence_64 : decode cB_addSentence 64 = .ok (.aload_n 0, 1) := by decide +kernel
theorem dB_addSentence_65 : decode cB_addSentence 65 = .ok (.getfield 19, 3) := by decide +kernel
theorem dB_addSentence_68 : decode cB_addSentence 68 = .ok (.ireturn, 1) := by decide +kernel
theorem dB_countSigns_0 : decode cB_countSigns 0 = .ok (.iconst 0, 1) := by decide +kernel
theorem dB_countSigns_1 : decode cB_countSigns 1 = .ok (.istore_n 2, 1) := by decide +kernel
theorem dB_countSigns_2 : decode cB_countSigns 2 = .ok (.lload_n 0, 1) := by decide +kernel
theorem dB_countSigns_3 : decode cB_countSigns 3 = .ok (.lstore_n 3, 1) := by decide +kernel
theorem dB_countSigns_4 : decode cB_countSigns 4 = .ok (.lload_n 3, 1) := by decide +kernel
theorem dB_countSigns_5 : decode cB_countSigns 5 = .ok (.lconst 0, 1) := by decide +kernel
theorem dB_countSigns_6 : decode cB_countSigns 6 = .ok (.lcmp, 1) := by decide +kernel
theorem dB_countSigns_7 : decode cB_countSigns 7 = .ok (.ifCond .eq 47, 3) := by decide +kernel
theorem dB_countSigns_10 : decode cB_countSigns 10 = .ok (.iload_n 2, 1) := by decide +kernel
theorem dB_countSigns_11 : decode cB_countSigns 11 = .ok (.bipush 8, 2) := by decide +kernel
theorem dB_countSigns_13 : decode cB_countSigns 13 = .ok (.if_icmp .ge 41, 3) := by decide +kernel
theorem dB_countSigns_16 : decode cB_countSigns 16 = .ok (.lload_n 3, 1) := by decide +kernel
theorem dB_countSigns_17 : decode cB_countSigns 17 = .ok (.ldc2_w 53, 3) := by decide +kernel
theorem dB_countSigns_20 : decode cB_countSigns 20 = .ok (.land, 1) := by decide +kernel
theorem dB_countSigns_21 : decode cB_countSigns 21 = .ok (.lstore 5, 2) := by decide +kernel
theorem dB_countSigns_23 : decode cB_countSigns 23 = .ok (.lload 5, 2) := by decide +kernel
theorem dB_countSigns_25 : decode cB_countSigns 25 = .ok (.ldc2_w 55, 3) := by decide +kernel
theorem dB_countSigns_28 : decode cB_countSigns 28 = .ok (.lcmp, 1) := by decide +kernel
theorem dB_countSigns_29 : decode cB_countSigns 29 = .ok (.ifCond .lt 12, 3) := by decide +kernel
theorem dB_countSigns_32 : decode cB_countSigns 32 = .ok (.lload 5, 2) := by decide +kernel
theorem dB_countSigns_34 : decode cB_countSigns 34 = .ok (.ldc2_w 57, 3) := by decide +kernel
theorem dB_countSigns_37 : decode cB_countSigns 37 = .ok (.lcmp, 1) := by decide +kernel
theorem dB_countSigns_38 : decode cB_countSigns 38 = .ok (.ifCond .le 5, 3) := by decide +kernel
theorem dB_countSigns_41 : decode cB_countSigns 41 = .ok (.iconst 0, 1) := by decide +kernel
theorem dB_countSigns_42 : decode cB_countSigns 42 = .ok (.ireturn, 1) := by decide +kernel
theorem dB_countSigns_43 : decode cB_countSigns 43 = .ok (.lload_n 3, 1) := by decide +kernel
theorem dB_countSigns_44 : decode cB_countSigns 44 = .ok (.bipush 8, 2) := by decide +kernel
theorem dB_countSigns_46 : decode cB_countSigns 46 = .ok (.lushr, 1) := by decide +kernel
theorem dB_countSigns_47 : decode cB_countSigns 47 = .ok (.lstore_n 3, 1) := by decide +kernel
theorem dB_countSigns_48 : decode cB_countSigns 48 = .ok (.iinc 2 1, 3) := by decide +kernel
theorem dB_countSigns_51 : decode cB_countSigns 51 = .ok (.goto (-47), 3) := by decide +kernel
theorem dB_countSigns_54 : decode cB_countSigns 54 = .ok (.iload_n 2, 1) := by decide +kernel
theorem dB_countSigns_55 : decode cB_countSigns 55 = .ok (.ireturn, 1) := by decide +kernel
theorem dB_setSound_0 : decode cB_setSound 0 = .ok (.iload_n 1, 1) := by decide +kernel
theorem dB_setSound_1 : decode cB_setSound 1 = .ok (.iload_n 2, 1) := by decide +kernel
theorem dB_setSound_2 : decode cB_setSound 2 = .ok (.invokestatic 59, 3) := by decide +kernel
theorem dB_setSound_5 : decode cB_setSound 5 = .ok (.ifCond .eq 21, 3) := by decide +kernel
theorem dB_setSound_8 : decode cB_setSound 8 = .ok (.aload_n 0, 1) := by decide +kernel
theorem dB_setSound_9 : decode cB_setSound 9 = .ok (.getfield 39, 3) := by decide +kernel
theorem dB_setSound_12 : decode cB_setSound 12 = .ok (.iload_n 1, 1) := by decide +kernel
theorem dB_setSound_13 : decode cB_setSound 13 = .ok (.iconst 4, 1) := by decide +kernel
theorem dB_setSound_14 : decode cB_setSound 14 = .ok (.imul, 1) := by decide +kernel
theorem dB_setSound_15 : decode cB_setSound 15 = .ok (.iload_n 2, 1) := by decide +kernel
theorem dB_setSound_16 : decode cB_setSound 16 = .ok (.iadd, 1) := by decide +kernel
theorem dB_setSound_17 : decode cB_setSound 17 = .ok (.iload_n 3, 1) := by decide +kernel
theorem dB_setSound_18 : decode cB_setSound 18 = .ok (.iastore, 1) := by decide +kernel
theorem dB_setSound_19 : decode cB_setSound 19 = .ok (.aload_n 0, 1) := by decide +kernel
theorem dB_setSound_20 : decode cB_setSound 20 = .ok (.getfield 42, 3) := by decide +kernel
theorem dB_setSound_23 : decode cB_setSound 23 = .ok (.iload_n 1, 1) := by decide +kernel
theorem dB_setSound_24 : decode cB_setSound 24 = .ok (.iconst 1, 1) := by decide +kernel
theorem dB_setSound_25 : decode cB_setSound 25 = .ok (.bastore, 1) := by decide +kernel
theorem dB_setSound_26 : decode cB_setSound 26 = .ok (.return_, 1) := by decide +kernel
theorem dP_setRow_0 : decode cP_setRow 0 = .ok (.iload_n 1, 1) := by decide +kernel
theorem dP_setRow_1 : decode cP_setRow 1 = .ok (.bipush 8, 2) := by decide +kernel
theorem dP_setRow_3 : decode cP_setRow 3 = .ok (.invokestatic 15, 3) := by decide +kernel
theorem dP_setRow_6 : decode cP_setRow 6 = .ok (.ifCond .eq 10, 3) := by decide +kernel
theorem dP_setRow_9 : decode cP_setRow 9 = .ok (.aload_n 0, 1) := by decide +kernel
theorem dP_setRow_10 : decode cP_setRow 10 = .ok (.getfield 11, 3) := by decide +kernel
theorem dP_setRow_13 : decode cP_setRow 13 = .ok (.iload_n 1, 1) := by decide +kernel
theorem dP_setRow_14 : decode cP_setRow 14 = .ok (.iload_n 2, 1) := by decide +kernel
theorem dP_setRow_15 : decode cP_setRow 15 = .ok (.iastore, 1) := by decide +kernel
theorem dP_setRow_16 : decode cP_setRow 16 = .ok (.return_, 1) := by decide +kernel
theorem dP_copy_0 : decode cP_copy 0 = .ok (.new 9, 3) := by decide +kernel
theorem dP_copy_3 : decode cP_copy 3 = .ok (.dup, 1) := by decide +kernel
theorem dP_copy_4 : decode cP_copy 4 = .ok (.invokespecial 19, 3) := by decide +kernel
theorem dP_copy_7 : decode cP_copy 7 = .ok (.astore_n 1, 1) := by decide +kernel
theorem dP_copy_8 : decode cP_copy 8 = .ok (.aload_n 0, 1) := by decide +kernel
theorem dP_copy_9 : decode cP_copy 9 = .ok (.getfield 11, 3) := by decide +kernel
theorem dP_copy_12 : decode cP_copy 12 = .ok (.iconst 0, 1) := by decide +kernel
theorem dP_copy_13 : decode cP_copy 13 = .ok (.aload_n 1, 1) := by decide +kernel
theorem dP_copy_14 : decode cP_copy 14 = .ok (.getfield 11, 3) := by decide +kernel
theorem dP_copy_17 : decode cP_copy 17 = .ok (.iconst 0, 1) := by decide +kernel
theorem dP_copy_18 : decode cP_copy 18 = .ok (.bipush 8, 2) := by decide +kernel
theorem dP_copy_20 : decode cP_copy 20 = .ok (.invokestatic 20, 3) := by decide +kernel
theorem dP_copy_23 : decode cP_copy 23 = .ok (.aload_n 1, 1) := by decide +kernel
theorem dP_copy_24 : decode cP_copy 24 = .ok (.areturn, 1) := by decide +kernel
theorem dB_close_0 : decode cB_close 0 = .ok (.aload_n 0, 1) := by decide +kernel
theorem dB_close_1 : decode cB_close 1 = .ok (.iload_n 1, 1) := by decide +kernel
theorem dB_close_2 : decode cB_close 2 = .ok (.putfield 23, 3) := by decide +kernel
theorem dB_close_5 : decode cB_close 5 = .ok (.aload_n 0, 1) := by decide +kernel
theorem dB_close_6 : decode cB_close 6 = .ok (.getfield 26, 3) := by decide +kernel
theorem dB_close_9 : decode cB_close 9 = .ok (.ifnonnull 4, 3) := by decide +kernel
theorem dB_close_12 : decode cB_close 12 = .ok (.return_, 1) := by decide +kernel
theorem dB_close_13 : decode cB_close 13 = .ok (.aload_n 0, 1) := by decide +kernel
theorem dB_close_14 : decode cB_close 14 = .ok (.bipush 16, 2) := by decide +kernel
theorem dB_close_16 : decode cB_close 16 = .ok (.aload_n 0, 1) := by decide +kernel
theorem dB_close_17 : decode cB_close 17 = .ok (.getfield 26, 3) := by decide +kernel
theorem dB_close_20 : decode cB_close 20 = .ok (.invokevirtual 63, 3) := by decide +kernel
theorem dB_close_23 : decode cB_close 23 = .ok (.invokestatic 69, 3) := by decide +kernel
theorem dB_close_26 : decode cB_close 26 = .ok (.putfield 33, 3) := by decide +kernel
theorem dB_close_29 : decode cB_close 29 = .ok (.aload_n 2, 1) := by decide +kernel
theorem dB_close_30 : decode cB_close 30 = .ok (.ifnull 46, 3) := by decide +kernel
theorem dB_close_33 : decode cB_close 33 = .ok (.aload_n 2, 1) := by decide +kernel
theorem dB_close_34 : decode cB_close 34 = .ok (.getfield 26, 3) := by decide +kernel
theorem dB_close_37 : decode cB_close 37 = .ok (.ifnull 39, 3) := by decide +kernel
theorem dB_close_40 : decode cB_close 40 = .ok (.aload_n 0, 1) := by decide +kernel
theorem dB_close_41 : decode cB_close 41 = .ok (.getfield 26, 3) := by decide +kernel
theorem dB_close_44 : decode cB_close 44 = .ok (.aload_n 2, 1) := by decide +kernel
theorem dB_close_45 : decode cB_close 45 = .ok (.getfield 26, 3) := by decide +kernel
theorem dB_close_48 : decode cB_close 48 = .ok (.invokevirtual 75, 3) := by decide +kernel
theorem dB_close_51 : decode cB_close 51 = .ok (.invokevirtual 63, 3) := by decide +kernel
theorem dB_close_54 : decode cB_close 54 = .ok (.istore_n 3, 1) := by decide +kernel
theorem dB_close_55 : decode cB_close 55 = .ok (.iload_n 3, 1) := by decide +kernel
theorem dB_close_56 : decode cB_close 56 = .ok (.aload_n 0, 1) := by decide +kernel
theorem dB_close_57 : decode cB_close 57 = .ok (.getfield 33, 3) := by decide +kernel
theorem dB_close_60 : decode cB_close 60 = .ok (.if_icmp .ge 16, 3) := by decide +kernel
theorem dB_close_63 : decode cB_close 63 = .ok (.aload_n 0, 1) := by decide +kernel
theorem dB_close_64 : decode cB_close 64 = .ok (.iload_n 3, 1) := by decide +kernel
theorem dB_close_65 : decode cB_close 65 = .ok (.putfield 33, 3) := by decide +kernel
theorem dB_close_68 : decode cB_close 68 = .ok (.aload_n 0, 1) := by decide +kernel
theorem dB_close_69 : decode cB_close 69 = .ok (.aload_n 2, 1) := by decide +kernel
theorem dB_close_70 : decode cB_close 70 = .ok (.getfield 46, 3) := by decide +kernel
theorem dB_close_73 : decode cB_close 73 = .ok (.putfield 30, 3) := by decide +kernel
theorem dB_close_76 : decode cB_close 76 = .ok (.return_, 1) := by decide +kernel
theorem dP_runs_0 : decode cP_runs 0 = .ok (.iconst 1, 1) := by decide +kernel
theorem dP_runs_1 : decode cP_runs 1 = .ok (.istore_n 1, 1) := by decide +kernel
theorem dP_runs_2 : decode cP_runs 2 = .ok (.iconst 1, 1) := by decide +kernel
theorem dP_runs_3 : decode cP_runs 3 = .ok (.istore_n 2, 1) := by decide +kernel
theorem dP_runs_4 : decode cP_runs 4 = .ok (.iload_n 2, 1) := by decide +kernel
theorem dP_runs_5 : decode cP_runs 5 = .ok (.bipush 64, 2) := by decide +kernel
theorem dP_runs_7 : decode cP_runs 7 = .ok (.if_icmp .ge 27, 3) := by decide +kernel
theorem dP_runs_10 : decode cP_runs 10 = .ok (.aload_n 0, 1) := by decide +kernel
theorem dP_runs_11 : decode cP_runs 11 = .ok (.iload_n 2, 1) := by decide +kernel
theorem dP_runs_12 : decode cP_runs 12 = .ok (.invokevirtual 26, 3) := by decide +kernel
theorem dP_runs_15 : decode cP_runs 15 = .ok (.aload_n 0, 1) := by decide +kernel
theorem dP_runs_16 : decode cP_runs 16 = .ok (.iload_n 2, 1) := by decide +kernel
theorem dP_runs_17 : decode cP_runs 17 = .ok (.iconst 1, 1) := by decide +kernel
theorem dP_runs_18 : decode cP_runs 18 = .ok (.isub, 1) := by decide +kernel
theorem dP_runs_19 : decode cP_runs 19 = .ok (.invokevirtual 26, 3) := by decide +kernel
theorem dP_runs_22 : decode cP_runs 22 = .ok (.if_icmp .eq 6, 3) := by decide +kernel
theorem dP_runs_25 : decode cP_runs 25 = .ok (.iinc 1 1, 3) := by decide +kernel
theorem dP_runs_28 : decode cP_runs 28 = .ok (.iinc 2 1, 3) := by decide +kernel
theorem dP_runs_31 : decode cP_runs 31 = .ok (.goto (-27), 3) := by decide +kernel
theorem dP_runs_34 : decode cP_runs 34 = .ok (.iload_n 1, 1) := by decide +kernel
theorem dP_runs_35 : decode cP_runs 35 = .ok (.ireturn, 1) := by decide +kernel
theorem dP_cell_0 : decode cP_cell 0 = .ok (.aload_n 0, 1) := by decide +kernel
theorem dP_cell_1 : decode cP_cell 1 = .ok (.getfield 11, 3) := by decide +kernel
theorem dP_cell_4 : decode cP_cell 4 = .ok (.iload_n 1, 1) := by decide +kernel
theorem dP_cell_5 : decode cP_cell 5 = .ok (.bipush 8, 2) := by decide +kernel
theorem dP_cell_7 : decode cP_cell 7 = .ok (.idiv, 1) := by decide +kernel
theorem dP_cell_8 : decode cP_cell 8 = .ok (.iaload, 1) := by decide +kernel
theorem dP_cell_9 : decode cP_cell 9 = .ok (.iconst 2, 1) := by decide +kernel
theorem dP_cell_10 : decode cP_cell 10 = .ok (.iload_n 1, 1) := by decide +kernel
theorem dP_cell_11 : decode cP_cell 11 = .ok (.bipush 8, 2) := by decide +kernel
theorem dP_cell_13 : decode cP_cell 13 = .ok (.irem, 1) := by decide +kernel
theorem dP_cell_14 : decode cP_cell 14 = .ok (.imul, 1) := by decide +kernel
theorem dP_cell_15 : decode cP_cell 15 = .ok (.ishr, 1) := by decide +kernel
theorem dP_cell_16 : decode cP_cell 16 = .ok (.iconst 3, 1) := by decide +kernel
theorem dP_cell_17 : decode cP_cell 17 = .ok (.iand, 1) := by decide +kernel
theorem dP_cell_18 : decode cP_cell 18 = .ok (.ireturn, 1) := by decide +kernel
theorem dP_xor_0 : decode cP_xor 0 = .ok (.new 9, 3) := by decide +kernel
theorem dP_xor_3 : decode cP_xor 3 = .ok (.dup, 1) := by decide +kernel
theorem dP_xor_4 : decode cP_xor 4 = .ok (.invokespecial 19, 3) := by decide +kernel
theorem dP_xor_7 : decode cP_xor 7 = .ok (.astore_n 2, 1) := by decide +kernel
theorem dP_xor_8 : decode cP_xor 8 = .ok (.iconst 0, 1) := by decide +kernel
theorem dP_xor_9 : decode cP_xor 9 = .ok (.istore_n 3, 1) := by decide +kernel
theorem dP_xor_10 : decode cP_xor 10 = .ok (.iload_n 3, 1) := by decide +kernel
theorem dP_xor_11 : decode cP_xor 11 = .ok (.bipush 8, 2) := by decide +kernel
theorem dP_xor_13 : decode cP_xor 13 = .ok (.if_icmp .ge 28, 3) := by decide +kernel
theorem dP_xor_16 : decode cP_xor 16 = .ok (.aload_n 2, 1) := by decide +kernel
theorem dP_xor_17 : decode cP_xor 17 = .ok (.getfield 11, 3) := by decide +kernel
theorem dP_xor_20 : decode cP_xor 20 = .ok (.iload_n 3, 1) := by decide +kernel
theorem dP_xor_21 : decode cP_xor 21 = .ok (.aload_n 0, 1) := by decide +kernel
theorem dP_xor_22 : decode cP_xor 22 = .ok (.getfield 11, 3) := by decide +kernel
theorem dP_xor_25 : decode cP_xor 25 = .ok (.iload_n 3, 1) := by decide +kernel
theorem dP_xor_26 : decode cP_xor 26 = .ok (.iaload, 1) := by decide +kernel
theorem dP_xor_27 : decode cP_xor 27 = .ok (.aload_n 1, 1) := by decide +kernel
theorem dP_xor_28 : decode cP_xor 28 = .ok (.getfield 11, 3) := by decide +kernel
theorem dP_xor_31 : decode cP_xor 31 = .ok (.iload_n 3, 1) := by decide +kernel
theorem dP_xor_32 : decode cP_xor 32 = .ok (.iaload, 1) := by decide +kernel
theorem dP_xor_33 : decode cP_xor 33 = .ok (.ixor, 1) := by decide +kernel
theorem dP_xor_34 : decode cP_xor 34 = .ok (.iastore, 1) := by decide +kernel
theorem dP_xor_35 : decode cP_xor 35 = .ok (.iinc 3 1, 3) := by decide +kernel
theorem dP_xor_38 : decode cP_xor 38 = .ok (.goto (-28), 3) := by decide +kernel
theorem dP_xor_41 : decode cP_xor 41 = .ok (.aload_n 2, 1) := by decide +kernel
theorem dP_xor_42 : decode cP_xor 42 = .ok (.areturn, 1) := by decide +kernel
theorem dB_pages_0 : decode cB_pages 0 = .ok (.bipush 6, 2) := by decide +kernel
theorem dB_pages_2 : decode cB_pages 2 = .ok (.aload_n 0, 1) := by decide +kernel
theorem dB_pages_3 : decode cB_pages 3 = .ok (.getfield 36, 3) := by decide +kernel
theorem dB_pages_6 : decode cB_pages 6 = .ok (.iadd, 1) := by decide +kernel
theorem dB_pages_7 : decode cB_pages 7 = .ok (.istore_n 2, 1) := by decide +kernel
theorem dB_pages_8 : decode cB_pages 8 = .ok (.iconst 0, 1) := by decide +kernel
theorem dB_pages_9 : decode cB_pages 9 = .ok (.istore_n 3, 1) := by decide +kernel
theorem dB_pages_10 : decode cB_pages 10 = .ok (.iload_n 3, 1) := by decide +kernel
theorem dB_pages_11 : decode cB_pages 11 = .ok (.iload_n 1, 1) := by decide +kernel
theorem dB_pages_12 : decode cB_pages 12 = .ok (.if_icmp .ge 26, 3) := by decide +kernel
theorem dB_pages_15 : decode cB_pages 15 = .ok (.iload_n 3, 1) := by decide +kernel
theorem dB_pages_16 : decode cB_pages 16 = .ok (.iconst 2, 1) := by decide +kernel
theorem dB_pages_17 : decode cB_pages 17 = .ok (.if_icmp .ge 21, 3) := by decide +kernel
theorem dB_pages_20 : decode cB_pages 20 = .ok (.aload_n 0, 1) := by decide +kernel
theorem dB_pages_21 : decode cB_pages 21 = .ok (.getfield 42, 3) := by decide +kernel
theorem dB_pages_24 : decode cB_pages 24 = .ok (.iload_n 3, 1) := by decide +kernel
theorem dB_pages_25 : decode cB_pages 25 = .ok (.baload, 1) := by decide +kernel
theorem dB_pages_26 : decode cB_pages 26 = .ok (.ifCond .eq 6, 3) := by decide +kernel
theorem dB_pages_29 : decode cB_pages 29 = .ok (.iinc 2 5, 3) := by decide +kernel
theorem dB_pages_32 : decode cB_pages 32 = .ok (.iinc 3 1, 3) := by decide +kernel
theorem dB_pages_35 : decode cB_pages 35 = .ok (.goto (-25), 3) := by decide +kernel
theorem dB_pages_38 : decode cB_pages 38 = .ok (.aload_n 0, 1) := by decide +kernel
theorem dB_pages_39 : decode cB_pages 39 = .ok (.getfield 26, 3) := by decide +kernel
theorem dB_pages_42 : decode cB_pages 42 = .ok (.ifnull 12, 3) := by decide +kernel
theorem dB_pages_45 : decode cB_pages 45 = .ok (.iload_n 2, 1) := by decide +kernel
theorem dB_pages_46 : decode cB_pages 46 = .ok (.iconst 1, 1) := by decide +kernel
theorem dB_pages_47 : decode cB_pages 47 = .ok (.aload_n 0, 1) := by decide +kernel
theorem dB_pages_48 : decode cB_pages 48 = .ok (.getfield 33, 3) := by decide +kernel
theorem dB_pages_51 : decode cB_pages 51 = .ok (.iadd, 1) := by decide +kernel
theorem dB_pages_52 : decode cB_pages 52 = .ok (.iadd, 1) := by decide +kernel
theorem dB_pages_53 : decode cB_pages 53 = .ok (.istore_n 2, 1) := by decide +kernel
theorem dB_pages_54 : decode cB_pages 54 = .ok (.iload_n 2, 1) := by decide +kernel
theorem dB_pages_55 : decode cB_pages 55 = .ok (.bipush 16, 2) := by decide +kernel
theorem dB_pages_57 : decode cB_pages 57 = .ok (.iadd, 1) := by decide +kernel
theorem dB_pages_58 : decode cB_pages 58 = .ok (.iconst 1, 1) := by decide +kernel
theorem dB_pages_59 : decode cB_pages 59 = .ok (.isub, 1) := by decide +kernel
theorem dB_pages_60 : decode cB_pages 60 = .ok (.bipush 16, 2) := by decide +kernel
theorem dB_pages_62 : decode cB_pages 62 = .ok (.idiv, 1) := by decide +kernel
theorem dB_pages_63 : decode cB_pages 63 = .ok (.ireturn, 1) := by decide +kernel
theorem dF_hold_0 : decode cF_hold 0 = .ok (.iconst 0, 1) := by decide +kernel
theorem dF_hold_1 : decode cF_hold 1 = .ok (.istore_n 2, 1) := by decide +kernel
theorem dF_hold_2 : decode cF_hold 2 = .ok (.iload_n 2, 1) := by decide +kernel
theorem dF_hold_3 : decode cF_hold 3 = .ok (.iconst 3, 1) := by decide +kernel
theorem dF_hold_4 : decode cF_hold 4 = .ok (.if_icmp .ge 40, 3) := by decide +kernel
theorem dF_hold_7 : decode cF_hold 7 = .ok (.aload_n 0, 1) := by decide +kernel
theorem dF_hold_8 : decode cF_hold 8 = .ok (.getfield 11, 3) := by decide +kernel
theorem dF_hold_11 : decode cF_hold 11 = .ok (.iload_n 2, 1) := by decide +kernel
theorem dF_hold_12 : decode cF_hold 12 = .ok (.baload, 1) := by decide +kernel
theorem dF_hold_13 : decode cF_hold 13 = .ok (.ifCond .eq 25, 3) := by decide +kernel
theorem dF_hold_16 : decode cF_hold 16 = .ok (.aload_n 0, 1) := by decide +kernel
theorem dF_hold_17 : decode cF_hold 17 = .ok (.getfield 15, 3) := by decide +kernel
theorem dF_hold_20 : decode cF_hold 20 = .ok (.iload_n 2, 1) := by decide +kernel
theorem dF_hold_21 : decode cF_hold 21 = .ok (.iaload, 1) := by decide +kernel
theorem dF_hold_22 : decode cF_hold 22 = .ok (.iload_n 1, 1) := by decide +kernel
theorem dF_hold_23 : decode cF_hold 23 = .ok (.if_icmp .gt 15, 3) := by decide +kernel
theorem dF_hold_26 : decode cF_hold 26 = .ok (.iload_n 1, 1) := by decide +kernel
theorem dF_hold_27 : decode cF_hold 27 = .ok (.aload_n 0, 1) := by decide +kernel
theorem dF_hold_28 : decode cF_hold 28 = .ok (.getfield 19, 3) := by decide +kernel
theorem dF_hold_31 : decode cF_hold 31 = .ok (.iload_n 2, 1) := by decide +kernel
theorem dF_hold_32 : decode cF_hold 32 = .ok (.iaload, 1) := by decide +kernel
theorem dF_hold_33 : decode cF_hold 33 = .ok (.if_icmp .gt 5, 3) := by decide +kernel
theorem dF_hold_36 : decode cF_hold 36 = .ok (.iconst 1, 1) := by decide +kernel
theorem dF_hold_37 : decode cF_hold 37 = .ok (.ireturn, 1) := by decide +kernel
theorem dF_hold_38 : decode cF_hold 38 = .ok (.iinc 2 1, 3) := by decide +kernel
theorem dF_hold_41 : decode cF_hold 41 = .ok (.goto (-39), 3) := by decide +kernel
theorem dF_hold_44 : decode cF_hold 44 = .ok (.iconst 0, 1) := by decide +kernel
theorem dF_hold_45 : decode cF_hold 45 = .ok (.ireturn, 1) := by decide +kernel
theorem dW_isCutInNextPage_0 : decode cW_isCutInNextPage 0 = .ok (.aload_n 0, 1) := by decide +kernel
theorem dW_isCutInNextPage_1 : decode cW_isCutInNextPage 1 = .ok (.getfield 15, 3) := by decide +kernel
theorem dW_isCutInNextPage_4 : decode cW_isCutInNextPage 4 = .ok (.iconst (-1), 1) := by decide +kernel
theorem dW_isCutInNextPage_5 : decode cW_isCutInNextPage 5 = .ok (.if_icmp .ne 5, 3) := by decide +kernel
theorem dW_isCutInNextPage_8 : decode cW_isCutInNextPage 8 = .ok (.iconst 0, 1) := by decide +kernel
theorem dW_isCutInNextPage_9 : decode cW_isCutInNextPage 9 = .ok (.ireturn, 1) := by decide +kernel
theorem dW_isCutInNextPage_10 : decode cW_isCutInNextPage 10 = .ok (.aload_n 0, 1) := by decide +kernel
theorem dW_isCutInNextPage_11 : decode cW_isCutInNextPage 11 = .ok (.getfield 15, 3) := by decide +kernel
theorem dW_isCutInNextPage_14 : decode cW_isCutInNextPage 14 = .ok (.ifCond .le 15, 3) := by decide +kernel
theorem dW_isCutInNextPage_17 : decode cW_isCutInNextPage 17 = .ok (.aload_n 0, 1) := by decide +kernel
theorem dW_isCutInNextPage_18 : decode cW_isCutInNextPage 18 = .ok (.dup, 1) := by decide +kernel
theorem dW_isCutInNextPage_19 : decode cW_isCutInNextPage 19 = .ok (.getfield 15, 3) := by decide +kernel
theorem dW_isCutInNextPage_22 : decode cW_isCutInNextPage 22 = .ok (.iconst 1, 1) := by decide +kernel
theorem dW_isCutInNextPage_23 : decode cW_isCutInNextPage 23 = .ok (.isub, 1) := by decide +kernel
theorem dW_isCutInNextPage_24 : decode cW_isCutInNextPage 24 = .ok (.putfield 15, 3) := by decide +kernel
theorem dW_isCutInNextPage_27 : decode cW_isCutInNextPage 27 = .ok (.iconst 0, 1) := by decide +kernel
theorem dW_isCutInNextPage_28 : decode cW_isCutInNextPage 28 = .ok (.ireturn, 1) := by decide +kernel
theorem dW_isCutInNextPage_29 : decode cW_isCutInNextPage 29 = .ok (.aload_n 0, 1) := by decide +kernel
theorem dW_isCutInNextPage_30 : decode cW_isCutInNextPage 30 = .ok (.iconst (-1), 1) := by decide +kernel
theorem dW_isCutInNextPage_31 : decode cW_isCutInNextPage 31 = .ok (.putfield 15, 3) := by decide +kernel
theorem dW_isCutInNextPage_34 : decode cW_isCutInNextPage 34 = .ok (.aload_n 0, 1) := by decide +kernel
theorem dW_isCutInNextPage_35 : decode cW_isCutInNextPage 35 = .ok (.iconst 0, 1) := by decide +kernel
theorem dW_isCutInNextPage_36 : decode cW_isCutInNextPage 36 = .ok (.putfield 9, 3) := by decide +kernel
theorem dW_isCutInNextPage_39 : decode cW_isCutInNextPage 39 = .ok (.iconst 1, 1) := by decide +kernel
theorem dW_isCutInNextPage_40 : decode cW_isCutInNextPage 40 = .ok (.ireturn, 1) := by decide +kernel
theorem dF_unusedNumber_0 : decode cF_unusedNumber 0 = .ok (.iconst 0, 1) := by decide +kernel
theorem dF_unusedNumber_1 : decode cF_unusedNumber 1 = .ok (.istore_n 1, 1) := by decide +kernel
theorem dF_unusedNumber_2 : decode cF_unusedNumber 2 = .ok (.iload_n 1, 1) := by decide +kernel
theorem dF_unusedNumber_3 : decode cF_unusedNumber 3 = .ok (.iconst 3, 1) := by decide +kernel
theorem dF_unusedNumber_4 : decode cF_unusedNumber 4 = .ok (.if_icmp .ge 20, 3) := by decide +kernel
theorem dF_unusedNumber_7 : decode cF_unusedNumber 7 = .ok (.aload_n 0, 1) := by decide +kernel
theorem dF_unusedNumber_8 : decode cF_unusedNumber 8 = .ok (.getfield 11, 3) := by decide +kernel
theorem dF_unusedNumber_11 : decode cF_unusedNumber 11 = .ok (.iload_n 1, 1) := by decide +kernel
theorem dF_unusedNumber_12 : decode cF_unusedNumber 12 = .ok (.baload, 1) := by decide +kernel
theorem dF_unusedNumber_13 : decode cF_unusedNumber 13 = .ok (.ifCond .ne 5, 3) := by decide +kernel
theorem dF_unusedNumber_16 : decode cF_unusedNumber 16 = .ok (.iload_n 1, 1) := by decide +kernel
theorem dF_unusedNumber_17 : decode cF_unusedNumber 17 = .ok (.ireturn, 1) := by decide +kernel
theorem dF_unusedNumber_18 : decode cF_unusedNumber 18 = .ok (.iinc 1 1, 3) := by decide +kernel
theorem dF_unusedNumber_21 : decode cF_unusedNumber 21 = .ok (.goto (-19), 3) := by decide +kernel
theorem dF_unusedNumber_24 : decode cF_unusedNumber 24 = .ok (.iconst (-1), 1) := by decide +kernel
theorem dF_unusedNumber_25 : decode cF_unusedNumber 25 = .ok (.ireturn, 1) := by decide +kernel
theorem dF_begin_0 : decode cF_begin 0 = .ok (.iload_n 1, 1) := by decide +kernel
theorem dF_begin_1 : decode cF_begin 1 = .ok (.iconst 3, 1) := by decide +kernel
theorem dF_begin_2 : decode cF_begin 2 = .ok (.invokestatic 22, 3) := by decide +kernel
theorem dF_begin_5 : decode cF_begin 5 = .ok (.ifCond .eq 24, 3) := by decide +kernel
theorem dF_begin_8 : decode cF_begin 8 = .ok (.aload_n 0, 1) := by decide +kernel
theorem dF_begin_9 : decode cF_begin 9 = .ok (.getfield 11, 3) := by decide +kernel
theorem dF_begin_12 : decode cF_begin 12 = .ok (.iload_n 1, 1) := by decide +kernel
theorem dF_begin_13 : decode cF_begin 13 = .ok (.iconst 1, 1) := by decide +kernel
theorem dF_begin_14 : decode cF_begin 14 = .ok (.bastore, 1) := by decide +kernel
theorem dF_begin_15 : decode cF_begin 15 = .ok (.aload_n 0, 1) := by decide +kernel
theorem dF_begin_16 : decode cF_begin 16 = .ok (.getfield 15, 3) := by decide +kernel
theorem dF_begin_19 : decode cF_begin 19 = .ok (.iload_n 1, 1) := by decide +kernel
theorem dF_begin_20 : decode cF_begin 20 = .ok (.iload_n 2, 1) := by decide +kernel
theorem dF_begin_21 : decode cF_begin 21 = .ok (.iastore, 1) := by decide +kernel
theorem dF_begin_22 : decode cF_begin 22 = .ok (.aload_n 0, 1) := by decide +kernel
theorem dF_begin_23 : decode cF_begin 23 = .ok (.getfield 19, 3) := by decide +kernel
theorem dF_begin_26 : decode cF_begin 26 = .ok (.iload_n 1, 1) := by decide +kernel
theorem dF_begin_27 : decode cF_begin 27 = .ok (.iload_n 3, 1) := by decide +kernel
theorem dF_begin_28 : decode cF_begin 28 = .ok (.iastore, 1) := by decide +kernel
theorem dF_begin_29 : decode cF_begin 29 = .ok (.return_, 1) := by decide +kernel
theorem dF_end_0 : decode cF_end 0 = .ok (.iload_n 1, 1) := by decide +kernel
theorem dF_end_1 : decode cF_end 1 = .ok (.iconst 3, 1) := by decide +kernel
theorem dF_end_2 : decode cF_end 2 = .ok (.invokestatic 22, 3) := by decide +kernel
theorem dF_end_5 : decode cF_end 5 = .ok (.ifCond .eq 10, 3) := by decide +kernel
theorem dF_end_8 : decode cF_end 8 = .ok (.aload_n 0, 1) := by decide +kernel
theorem dF_end_9 : decode cF_end 9 = .ok (.getfield 11, 3) := by decide +kernel
theorem dF_end_12 : decode cF_end 12 = .ok (.iload_n 1, 1) := by decide +kernel
theorem dF_end_13 : decode cF_end 13 = .ok (.iconst 0, 1) := by decide +kernel
theorem dF_end_14 : decode cF_end 14 = .ok (.bastore, 1) := by decide +kernel
theorem dF_end_15 : decode cF_end 15 = .ok (.return_, 1) := by decide +kernel
