theorem dS_init_0 : decode cS_init 0 = .ok (.aload_n 0, 1) := by decide +kernel
theorem dS_init_1 : decode cS_init 1 = .ok (.invokespecial 3, 3) := by decide +kernel
theorem dS_init_4 : decode cS_init 4 = .ok (.aload_n 0, 1) := by decide +kernel
theorem dS_init_5 : decode cS_init 5 = .ok (.iconst 0, 1) := by decide +kernel
theorem dS_init_6 : decode cS_init 6 = .ok (.putfield 9, 3) := by decide +kernel
theorem dS_init_9 : decode cS_init 9 = .ok (.aload_n 0, 1) := by decide +kernel
theorem dS_init_10 : decode cS_init 10 = .ok (.iload_n 2, 1) := by decide +kernel
theorem dS_init_11 : decode cS_init 11 = .ok (.putfield 15, 3) := by decide +kernel
theorem dS_init_14 : decode cS_init 14 = .ok (.aload_n 0, 1) := by decide +kernel
theorem dS_init_15 : decode cS_init 15 = .ok (.iload_n 3, 1) := by decide +kernel
theorem dS_init_16 : decode cS_init 16 = .ok (.putfield 19, 3) := by decide +kernel
theorem dS_init_19 : decode cS_init 19 = .ok (.aload_n 0, 1) := by decide +kernel
theorem dS_init_20 : decode cS_init 20 = .ok (.iload_n 1, 1) := by decide +kernel
theorem dS_init_21 : decode cS_init 21 = .ok (.anewarray 22, 3) := by decide +kernel
theorem dS_init_24 : decode cS_init 24 = .ok (.putfield 24, 3) := by decide +kernel
theorem dS_init_27 : decode cS_init 27 = .ok (.aload_n 0, 1) := by decide +kernel
theorem dS_init_28 : decode cS_init 28 = .ok (.iload_n 1, 1) := by decide +kernel
theorem dS_init_29 : decode cS_init 29 = .ok (.newarray .boolean, 2) := by decide +kernel
theorem dS_init_31 : decode cS_init 31 = .ok (.putfield 28, 3) := by decide +kernel
theorem dS_init_34 : decode cS_init 34 = .ok (.return_, 1) := by decide +kernel
theorem dS_latest_0 : decode cS_latest 0 = .ok (.iconst (-1), 1) := by decide +kernel
theorem dS_latest_1 : decode cS_latest 1 = .ok (.istore_n 1, 1) := by decide +kernel
theorem dS_latest_2 : decode cS_latest 2 = .ok (.iconst 0, 1) := by decide +kernel
theorem dS_latest_3 : decode cS_latest 3 = .ok (.istore_n 2, 1) := by decide +kernel
theorem dS_latest_4 : decode cS_latest 4 = .ok (.iload_n 2, 1) := by decide +kernel
theorem dS_latest_5 : decode cS_latest 5 = .ok (.aload_n 0, 1) := by decide +kernel
theorem dS_latest_6 : decode cS_latest 6 = .ok (.getfield 24, 3) := by decide +kernel
theorem dS_latest_9 : decode cS_latest 9 = .ok (.arraylength, 1) := by decide +kernel
theorem dS_latest_10 : decode cS_latest 10 = .ok (.if_icmp .ge 29, 3) := by decide +kernel
theorem dS_latest_13 : decode cS_latest 13 = .ok (.aload_n 0, 1) := by decide +kernel
theorem dS_latest_14 : decode cS_latest 14 = .ok (.getfield 24, 3) := by decide +kernel
theorem dS_latest_17 : decode cS_latest 17 = .ok (.iload_n 2, 1) := by decide +kernel
theorem dS_latest_18 : decode cS_latest 18 = .ok (.aaload, 1) := by decide +kernel
theorem dS_latest_19 : decode cS_latest 19 = .ok (.astore_n 3, 1) := by decide +kernel
theorem dS_latest_20 : decode cS_latest 20 = .ok (.aload_n 3, 1) := by decide +kernel
theorem dS_latest_21 : decode cS_latest 21 = .ok (.ifnull 12, 3) := by decide +kernel
theorem dS_latest_24 : decode cS_latest 24 = .ok (.iload_n 1, 1) := by decide +kernel
theorem dS_latest_25 : decode cS_latest 25 = .ok (.aload_n 3, 1) := by decide +kernel
theorem dS_latest_26 : decode cS_latest 26 = .ok (.getfield 62, 3) := by decide +kernel
theorem dS_latest_29 : decode cS_latest 29 = .ok (.invokestatic 88, 3) := by decide +kernel
theorem dS_latest_32 : decode cS_latest 32 = .ok (.istore_n 1, 1) := by decide +kernel
theorem dS_latest_33 : decode cS_latest 33 = .ok (.iinc 2 1, 3) := by decide +kernel
theorem dS_latest_36 : decode cS_latest 36 = .ok (.goto (-32), 3) := by decide +kernel
theorem dS_latest_39 : decode cS_latest 39 = .ok (.iload_n 1, 1) := by decide +kernel
theorem dS_latest_40 : decode cS_latest 40 = .ok (.ireturn, 1) := by decide +kernel
theorem dS_earliest_0 : decode cS_earliest 0 = .ok (.iconst (-1), 1) := by decide +kernel
theorem dS_earliest_1 : decode cS_earliest 1 = .ok (.istore_n 1, 1) := by decide +kernel
theorem dS_earliest_2 : decode cS_earliest 2 = .ok (.iconst 0, 1) := by decide +kernel
theorem dS_earliest_3 : decode cS_earliest 3 = .ok (.istore_n 2, 1) := by decide +kernel
theorem dS_earliest_4 : decode cS_earliest 4 = .ok (.iload_n 2, 1) := by decide +kernel
theorem dS_earliest_5 : decode cS_earliest 5 = .ok (.aload_n 0, 1) := by decide +kernel
theorem dS_earliest_6 : decode cS_earliest 6 = .ok (.getfield 24, 3) := by decide +kernel
theorem dS_earliest_9 : decode cS_earliest 9 = .ok (.arraylength, 1) := by decide +kernel
theorem dS_earliest_10 : decode cS_earliest 10 = .ok (.if_icmp .ge 29, 3) := by decide +kernel
theorem dS_earliest_13 : decode cS_earliest 13 = .ok (.aload_n 0, 1) := by decide +kernel
theorem dS_earliest_14 : decode cS_earliest 14 = .ok (.getfield 24, 3) := by decide +kernel
theorem dS_earliest_17 : decode cS_earliest 17 = .ok (.iload_n 2, 1) := by decide +kernel
theorem dS_earliest_18 : decode cS_earliest 18 = .ok (.aaload, 1) := by decide +kernel
theorem dS_earliest_19 : decode cS_earliest 19 = .ok (.astore_n 3, 1) := by decide +kernel
theorem dS_earliest_20 : decode cS_earliest 20 = .ok (.aload_n 3, 1) := by decide +kernel
theorem dS_earliest_21 : decode cS_earliest 21 = .ok (.ifnull 12, 3) := by decide +kernel
theorem dS_earliest_24 : decode cS_earliest 24 = .ok (.iload_n 1, 1) := by decide +kernel
theorem dS_earliest_25 : decode cS_earliest 25 = .ok (.aload_n 3, 1) := by decide +kernel
theorem dS_earliest_26 : decode cS_earliest 26 = .ok (.getfield 62, 3) := by decide +kernel
theorem dS_earliest_29 : decode cS_earliest 29 = .ok (.invokestatic 79, 3) := by decide +kernel
theorem dS_earliest_32 : decode cS_earliest 32 = .ok (.istore_n 1, 1) := by decide +kernel
theorem dS_earliest_33 : decode cS_earliest 33 = .ok (.iinc 2 1, 3) := by decide +kernel
theorem dS_earliest_36 : decode cS_earliest 36 = .ok (.goto (-32), 3) := by decide +kernel
theorem dS_earliest_39 : decode cS_earliest 39 = .ok (.iload_n 1, 1) := by decide +kernel
theorem dS_earliest_40 : decode cS_earliest 40 = .ok (.ireturn, 1) := by decide +kernel
theorem dS_earlier_0 : decode cS_earlier 0 = .ok (.iload_n 0, 1) := by decide +kernel
theorem dS_earlier_1 : decode cS_earlier 1 = .ok (.iconst (-1), 1) := by decide +kernel
theorem dS_earlier_2 : decode cS_earlier 2 = .ok (.if_icmp .ne 7, 3) := by decide +kernel
theorem dS_earlier_5 : decode cS_earlier 5 = .ok (.iload_n 1, 1) := by decide +kernel
theorem dS_earlier_6 : decode cS_earlier 6 = .ok (.goto 8, 3) := by decide +kernel
theorem dS_earlier_9 : decode cS_earlier 9 = .ok (.iload_n 0, 1) := by decide +kernel
theorem dS_earlier_10 : decode cS_earlier 10 = .ok (.iload_n 1, 1) := by decide +kernel
theorem dS_earlier_11 : decode cS_earlier 11 = .ok (.invokestatic 83, 3) := by decide +kernel
theorem dS_earlier_14 : decode cS_earlier 14 = .ok (.ireturn, 1) := by decide +kernel
theorem dS_freePages_0 : decode cS_freePages 0 = .ok (.iconst 0, 1) := by decide +kernel
theorem dS_freePages_1 : decode cS_freePages 1 = .ok (.istore_n 1, 1) := by decide +kernel
theorem dS_freePages_2 : decode cS_freePages 2 = .ok (.iconst 0, 1) := by decide +kernel
theorem dS_freePages_3 : decode cS_freePages 3 = .ok (.istore_n 2, 1) := by decide +kernel
theorem dS_freePages_4 : decode cS_freePages 4 = .ok (.iload_n 2, 1) := by decide +kernel
theorem dS_freePages_5 : decode cS_freePages 5 = .ok (.aload_n 0, 1) := by decide +kernel
theorem dS_freePages_6 : decode cS_freePages 6 = .ok (.getfield 24, 3) := by decide +kernel
theorem dS_freePages_9 : decode cS_freePages 9 = .ok (.arraylength, 1) := by decide +kernel
theorem dS_freePages_10 : decode cS_freePages 10 = .ok (.if_icmp .ge 21, 3) := by decide +kernel
theorem dS_freePages_13 : decode cS_freePages 13 = .ok (.aload_n 0, 1) := by decide +kernel
theorem dS_freePages_14 : decode cS_freePages 14 = .ok (.getfield 24, 3) := by decide +kernel
theorem dS_freePages_17 : decode cS_freePages 17 = .ok (.iload_n 2, 1) := by decide +kernel
theorem dS_freePages_18 : decode cS_freePages 18 = .ok (.aaload, 1) := by decide +kernel
theorem dS_freePages_19 : decode cS_freePages 19 = .ok (.ifnonnull 6, 3) := by decide +kernel
theorem dS_freePages_22 : decode cS_freePages 22 = .ok (.iinc 1 1, 3) := by decide +kernel
theorem dS_freePages_25 : decode cS_freePages 25 = .ok (.iinc 2 1, 3) := by decide +kernel
theorem dS_freePages_28 : decode cS_freePages 28 = .ok (.goto (-24), 3) := by decide +kernel
theorem dS_freePages_31 : decode cS_freePages 31 = .ok (.iload_n 1, 1) := by decide +kernel
theorem dS_freePages_32 : decode cS_freePages 32 = .ok (.ireturn, 1) := by decide +kernel
theorem dS_readableBundle_0 : decode cS_readableBundle 0 = .ok (.aconst_null, 1) := by decide +kernel
theorem dS_readableBundle_1 : decode cS_readableBundle 1 = .ok (.astore_n 2, 1) := by decide +kernel
theorem dS_readableBundle_2 : decode cS_readableBundle 2 = .ok (.iconst 0, 1) := by decide +kernel
theorem dS_readableBundle_3 : decode cS_readableBundle 3 = .ok (.istore_n 3, 1) := by decide +kernel
theorem dS_readableBundle_4 : decode cS_readableBundle 4 = .ok (.iload_n 3, 1) := by decide +kernel
theorem dS_readableBundle_5 : decode cS_readableBundle 5 = .ok (.aload_n 0, 1) := by decide +kernel
theorem dS_readableBundle_6 : decode cS_readableBundle 6 = .ok (.getfield 24, 3) := by decide +kernel
theorem dS_readableBundle_9 : decode cS_readableBundle 9 = .ok (.arraylength, 1) := by decide +kernel
theorem dS_readableBundle_10 : decode cS_readableBundle 10 = .ok (.if_icmp .ge 36, 3) := by decide +kernel
theorem dS_readableBundle_13 : decode cS_readableBundle 13 = .ok (.aload_n 0, 1) := by decide +kernel
theorem dS_readableBundle_14 : decode cS_readableBundle 14 = .ok (.iload_n 3, 1) := by decide +kernel
theorem dS_readableBundle_15 : decode cS_readableBundle 15 = .ok (.iload_n 1, 1) := by decide +kernel
theorem dS_readableBundle_16 : decode cS_readableBundle 16 = .ok (.invokevirtual 65, 3) := by decide +kernel
theorem dS_readableBundle_19 : decode cS_readableBundle 19 = .ok (.ifCond .eq 21, 3) := by decide +kernel
theorem dS_readableBundle_22 : decode cS_readableBundle 22 = .ok (.aload_n 0, 1) := by decide +kernel
theorem dS_readableBundle_23 : decode cS_readableBundle 23 = .ok (.getfield 28, 3) := by decide +kernel
theorem dS_readableBundle_26 : decode cS_readableBundle 26 = .ok (.iload_n 3, 1) := by decide +kernel
theorem dS_readableBundle_27 : decode cS_readableBundle 27 = .ok (.baload, 1) := by decide +kernel
theorem dS_readableBundle_28 : decode cS_readableBundle 28 = .ok (.ifCond .eq 5, 3) := by decide +kernel
theorem dS_readableBundle_31 : decode cS_readableBundle 31 = .ok (.aconst_null, 1) := by decide +kernel
theorem dS_readableBundle_32 : decode cS_readableBundle 32 = .ok (.areturn, 1) := by decide +kernel
theorem dS_readableBundle_33 : decode cS_readableBundle 33 = .ok (.aload_n 0, 1) := by decide +kernel
theorem dS_readableBundle_34 : decode cS_readableBundle 34 = .ok (.getfield 24, 3) := by decide +kernel
theorem dS_readableBundle_37 : decode cS_readableBundle 37 = .ok (.iload_n 3, 1) := by decide +kernel
theorem dS_readableBundle_38 : decode cS_readableBundle 38 = .ok (.aaload, 1) := by decide +kernel
theorem dS_readableBundle_39 : decode cS_readableBundle 39 = .ok (.astore_n 2, 1) := by decide +kernel
theorem dS_readableBundle_40 : decode cS_readableBundle 40 = .ok (.iinc 3 1, 3) := by decide +kernel
theorem dS_readableBundle_43 : decode cS_readableBundle 43 = .ok (.goto (-39), 3) := by decide +kernel
theorem dS_readableBundle_46 : decode cS_readableBundle 46 = .ok (.aload_n 2, 1) := by decide +kernel
theorem dS_readableBundle_47 : decode cS_readableBundle 47 = .ok (.areturn, 1) := by decide +kernel
theorem dS_isOf_0 : decode cS_isOf 0 = .ok (.aload_n 0, 1) := by decide +kernel
theorem dS_isOf_1 : decode cS_isOf 1 = .ok (.getfield 24, 3) := by decide +kernel
theorem dS_isOf_4 : decode cS_isOf 4 = .ok (.iload_n 1, 1) := by decide +kernel
theorem dS_isOf_5 : decode cS_isOf 5 = .ok (.aaload, 1) := by decide +kernel
theorem dS_isOf_6 : decode cS_isOf 6 = .ok (.astore_n 3, 1) := by decide +kernel
theorem dS_isOf_7 : decode cS_isOf 7 = .ok (.aload_n 3, 1) := by decide +kernel
theorem dS_isOf_8 : decode cS_isOf 8 = .ok (.ifnull 15, 3) := by decide +kernel
theorem dS_isOf_11 : decode cS_isOf 11 = .ok (.aload_n 3, 1) := by decide +kernel
theorem dS_isOf_12 : decode cS_isOf 12 = .ok (.getfield 62, 3) := by decide +kernel
theorem dS_isOf_15 : decode cS_isOf 15 = .ok (.iload_n 2, 1) := by decide +kernel
theorem dS_isOf_16 : decode cS_isOf 16 = .ok (.if_icmp .ne 7, 3) := by decide +kernel
theorem dS_isOf_19 : decode cS_isOf 19 = .ok (.iconst 1, 1) := by decide +kernel
theorem dS_isOf_20 : decode cS_isOf 20 = .ok (.goto 4, 3) := by decide +kernel
theorem dS_isOf_23 : decode cS_isOf 23 = .ok (.iconst 0, 1) := by decide +kernel
theorem dS_isOf_24 : decode cS_isOf 24 = .ok (.ireturn, 1) := by decide +kernel
theorem dS_pictureKnownAt_0 : decode cS_pictureKnownAt 0 = .ok (.new 104, 3) := by decide +kernel
theorem dS_pictureKnownAt_3 : decode cS_pictureKnownAt 3 = .ok (.dup, 1) := by decide +kernel
theorem dS_pictureKnownAt_4 : decode cS_pictureKnownAt 4 = .ok (.invokespecial 106, 3) := by decide +kernel
theorem dS_pictureKnownAt_7 : decode cS_pictureKnownAt 7 = .ok (.astore_n 2, 1) := by decide +kernel
theorem dS_pictureKnownAt_8 : decode cS_pictureKnownAt 8 = .ok (.iconst (-1), 1) := by decide +kernel
theorem dS_pictureKnownAt_9 : decode cS_pictureKnownAt 9 = .ok (.istore_n 3, 1) := by decide +kernel
theorem dS_pictureKnownAt_10 : decode cS_pictureKnownAt 10 = .ok (.iload_n 1, 1) := by decide +kernel
theorem dS_pictureKnownAt_11 : decode cS_pictureKnownAt 11 = .ok (.bipush 10, 2) := by decide +kernel
theorem dS_pictureKnownAt_13 : decode cS_pictureKnownAt 13 = .ok (.invokestatic 107, 3) := by decide +kernel
theorem dS_pictureKnownAt_16 : decode cS_pictureKnownAt 16 = .ok (.istore 4, 2) := by decide +kernel
theorem dS_pictureKnownAt_18 : decode cS_pictureKnownAt 18 = .ok (.iload 4, 2) := by decide +kernel
theorem dS_pictureKnownAt_20 : decode cS_pictureKnownAt 20 = .ok (.ifCond .lt 87, 3) := by decide +kernel
theorem dS_pictureKnownAt_23 : decode cS_pictureKnownAt 23 = .ok (.aload_n 0, 1) := by decide +kernel
theorem dS_pictureKnownAt_24 : decode cS_pictureKnownAt 24 = .ok (.iload_n 1, 1) := by decide +kernel
theorem dS_pictureKnownAt_25 : decode cS_pictureKnownAt 25 = .ok (.iload 4, 2) := by decide +kernel
theorem dS_pictureKnownAt_27 : decode cS_pictureKnownAt 27 = .ok (.isub, 1) := by decide +kernel
theorem dS_pictureKnownAt_28 : decode cS_pictureKnownAt 28 = .ok (.invokevirtual 94, 3) := by decide +kernel
theorem dS_pictureKnownAt_31 : decode cS_pictureKnownAt 31 = .ok (.astore 5, 2) := by decide +kernel
theorem dS_pictureKnownAt_33 : decode cS_pictureKnownAt 33 = .ok (.aload 5, 2) := by decide +kernel
theorem dS_pictureKnownAt_35 : decode cS_pictureKnownAt 35 = .ok (.ifnull 66, 3) := by decide +kernel
theorem dS_pictureKnownAt_38 : decode cS_pictureKnownAt 38 = .ok (.aload 5, 2) := by decide +kernel
theorem dS_pictureKnownAt_40 : decode cS_pictureKnownAt 40 = .ok (.getfield 110, 3) := by decide +kernel
theorem dS_pictureKnownAt_43 : decode cS_pictureKnownAt 43 = .ok (.ifnull 58, 3) := by decide +kernel
theorem dS_pictureKnownAt_46 : decode cS_pictureKnownAt 46 = .ok (.aload 5, 2) := by decide +kernel
theorem dS_pictureKnownAt_48 : decode cS_pictureKnownAt 48 = .ok (.getfield 114, 3) := by decide +kernel
theorem dS_pictureKnownAt_51 : decode cS_pictureKnownAt 51 = .ok (.iconst (-1), 1) := by decide +kernel
theorem dS_pictureKnownAt_52 : decode cS_pictureKnownAt 52 = .ok (.if_icmp .eq 12, 3) := by decide +kernel
theorem dS_pictureKnownAt_55 : decode cS_pictureKnownAt 55 = .ok (.aload 5, 2) := by decide +kernel
theorem dS_pictureKnownAt_57 : decode cS_pictureKnownAt 57 = .ok (.getfield 114, 3) := by decide +kernel
theorem dS_pictureKnownAt_60 : decode cS_pictureKnownAt 60 = .ok (.iload_n 3, 1) := by decide +kernel
theorem dS_pictureKnownAt_61 : decode cS_pictureKnownAt 61 = .ok (.if_icmp .ne 7, 3) := by decide +kernel
theorem dS_pictureKnownAt_64 : decode cS_pictureKnownAt 64 = .ok (.iconst 1, 1) := by decide +kernel
theorem dS_pictureKnownAt_65 : decode cS_pictureKnownAt 65 = .ok (.goto 4, 3) := by decide +kernel
theorem dS_pictureKnownAt_68 : decode cS_pictureKnownAt 68 = .ok (.iconst 0, 1) := by decide +kernel
theorem dS_pictureKnownAt_69 : decode cS_pictureKnownAt 69 = .ok (.istore 6, 2) := by decide +kernel
theorem dS_pictureKnownAt_71 : decode cS_pictureKnownAt 71 = .ok (.iload 6, 2) := by decide +kernel
theorem dS_pictureKnownAt_73 : decode cS_pictureKnownAt 73 = .ok (.ifCond .eq 11, 3) := by decide +kernel
theorem dS_pictureKnownAt_76 : decode cS_pictureKnownAt 76 = .ok (.aload 5, 2) := by decide +kernel
theorem dS_pictureKnownAt_78 : decode cS_pictureKnownAt 78 = .ok (.getfield 110, 3) := by decide +kernel
theorem dS_pictureKnownAt_81 : decode cS_pictureKnownAt 81 = .ok (.goto 4, 3) := by decide +kernel
theorem dS_pictureKnownAt_84 : decode cS_pictureKnownAt 84 = .ok (.aconst_null, 1) := by decide +kernel
theorem dS_pictureKnownAt_85 : decode cS_pictureKnownAt 85 = .ok (.astore_n 2, 1) := by decide +kernel
theorem dS_pictureKnownAt_86 : decode cS_pictureKnownAt 86 = .ok (.iload 6, 2) := by decide +kernel
theorem dS_pictureKnownAt_88 : decode cS_pictureKnownAt 88 = .ok (.ifCond .eq 11, 3) := by decide +kernel
theorem dS_pictureKnownAt_91 : decode cS_pictureKnownAt 91 = .ok (.aload 5, 2) := by decide +kernel
theorem dS_pictureKnownAt_93 : decode cS_pictureKnownAt 93 = .ok (.getfield 62, 3) := by decide +kernel
theorem dS_pictureKnownAt_96 : decode cS_pictureKnownAt 96 = .ok (.goto 4, 3) := by decide +kernel
theorem dS_pictureKnownAt_99 : decode cS_pictureKnownAt 99 = .ok (.iconst (-1), 1) := by decide +kernel
theorem dS_pictureKnownAt_100 : decode cS_pictureKnownAt 100 = .ok (.istore_n 3, 1) := by decide +kernel
theorem dS_pictureKnownAt_101 : decode cS_pictureKnownAt 101 = .ok (.iinc 4 (-1), 3) := by decide +kernel
theorem dS_pictureKnownAt_104 : decode cS_pictureKnownAt 104 = .ok (.goto (-86), 3) := by decide +kernel
theorem dS_pictureKnownAt_107 : decode cS_pictureKnownAt 107 = .ok (.aload_n 2, 1) := by decide +kernel
theorem dS_pictureKnownAt_108 : decode cS_pictureKnownAt 108 = .ok (.areturn, 1) := by decide +kernel
theorem dS_earliestOfSource_0 : decode cS_earliestOfSource 0 = .ok (.iconst (-1), 1) := by decide +kernel
theorem dS_earliestOfSource_1 : decode cS_earliestOfSource 1 = .ok (.istore_n 3, 1) := by decide +kernel
theorem dS_earliestOfSource_2 : decode cS_earliestOfSource 2 = .ok (.iconst 0, 1) := by decide +kernel
theorem dS_earliestOfSource_3 : decode cS_earliestOfSource 3 = .ok (.istore 4, 2) := by decide +kernel
theorem dS_earliestOfSource_5 : decode cS_earliestOfSource 5 = .ok (.iload 4, 2) := by decide +kernel
theorem dS_earliestOfSource_7 : decode cS_earliestOfSource 7 = .ok (.aload_n 0, 1) := by decide +kernel
theorem dS_earliestOfSource_8 : decode cS_earliestOfSource 8 = .ok (.getfield 24, 3) := by decide +kernel
theorem dS_earliestOfSource_11 : decode cS_earliestOfSource 11 = .ok (.arraylength, 1) := by decide +kernel
theorem dS_earliestOfSource_12 : decode cS_earliestOfSource 12 = .ok (.if_icmp .ge 63, 3) := by decide +kernel
theorem dS_earliestOfSource_15 : decode cS_earliestOfSource 15 = .ok (.aload_n 0, 1) := by decide +kernel
theorem dS_earliestOfSource_16 : decode cS_earliestOfSource 16 = .ok (.getfield 24, 3) := by decide +kernel
theorem dS_earliestOfSource_19 : decode cS_earliestOfSource 19 = .ok (.iload 4, 2) := by decide +kernel
theorem dS_earliestOfSource_21 : decode cS_earliestOfSource 21 = .ok (.aaload, 1) := by decide +kernel
theorem dS_earliestOfSource_22 : decode cS_earliestOfSource 22 = .ok (.astore 5, 2) := by decide +kernel
theorem dS_earliestOfSource_24 : decode cS_earliestOfSource 24 = .ok (.aload 5, 2) := by decide +kernel
theorem dS_earliestOfSource_26 : decode cS_earliestOfSource 26 = .ok (.ifnull 43, 3) := by decide +kernel
theorem dS_earliestOfSource_29 : decode cS_earliestOfSource 29 = .ok (.aload 5, 2) := by decide +kernel
theorem dS_earliestOfSource_31 : decode cS_earliestOfSource 31 = .ok (.getfield 62, 3) := by decide +kernel
theorem dS_earliestOfSource_34 : decode cS_earliestOfSource 34 = .ok (.iload_n 2, 1) := by decide +kernel
theorem dS_earliestOfSource_35 : decode cS_earliestOfSource 35 = .ok (.if_icmp .lt 34, 3) := by decide +kernel
theorem dS_earliestOfSource_38 : decode cS_earliestOfSource 38 = .ok (.aload 5, 2) := by decide +kernel
theorem dS_earliestOfSource_40 : decode cS_earliestOfSource 40 = .ok (.iload_n 1, 1) := by decide +kernel
theorem dS_earliestOfSource_41 : decode cS_earliestOfSource 41 = .ok (.invokevirtual 91, 3) := by decide +kernel
theorem dS_earliestOfSource_44 : decode cS_earliestOfSource 44 = .ok (.ifCond .eq 25, 3) := by decide +kernel
theorem dS_earliestOfSource_47 : decode cS_earliestOfSource 47 = .ok (.aload_n 0, 1) := by decide +kernel
theorem dS_earliestOfSource_48 : decode cS_earliestOfSource 48 = .ok (.aload 5, 2) := by decide +kernel
theorem dS_earliestOfSource_50 : decode cS_earliestOfSource 50 = .ok (.getfield 62, 3) := by decide +kernel
theorem dS_earliestOfSource_53 : decode cS_earliestOfSource 53 = .ok (.invokevirtual 94, 3) := by decide +kernel
theorem dS_earliestOfSource_56 : decode cS_earliestOfSource 56 = .ok (.ifnull 13, 3) := by decide +kernel
theorem dS_earliestOfSource_59 : decode cS_earliestOfSource 59 = .ok (.iload_n 3, 1) := by decide +kernel
theorem dS_earliestOfSource_60 : decode cS_earliestOfSource 60 = .ok (.aload 5, 2) := by decide +kernel
theorem dS_earliestOfSource_62 : decode cS_earliestOfSource 62 = .ok (.getfield 62, 3) := by decide +kernel
theorem dS_earliestOfSource_65 : decode cS_earliestOfSource 65 = .ok (.invokestatic 79, 3) := by decide +kernel
theorem dS_earliestOfSource_68 : decode cS_earliestOfSource 68 = .ok (.istore_n 3, 1) := by decide +kernel
theorem dS_earliestOfSource_69 : decode cS_earliestOfSource 69 = .ok (.iinc 4 1, 3) := by decide +kernel
theorem dS_earliestOfSource_72 : decode cS_earliestOfSource 72 = .ok (.goto (-67), 3) := by decide +kernel
theorem dS_earliestOfSource_75 : decode cS_earliestOfSource 75 = .ok (.iload_n 3, 1) := by decide +kernel
theorem dS_earliestOfSource_76 : decode cS_earliestOfSource 76 = .ok (.ireturn, 1) := by decide +kernel
theorem dS_spoilPage_0 : decode cS_spoilPage 0 = .ok (.iload_n 1, 1) := by decide +kernel
theorem dS_spoilPage_1 : decode cS_spoilPage 1 = .ok (.aload_n 0, 1) := by decide +kernel
theorem dS_spoilPage_2 : decode cS_spoilPage 2 = .ok (.getfield 28, 3) := by decide +kernel
theorem dS_spoilPage_5 : decode cS_spoilPage 5 = .ok (.arraylength, 1) := by decide +kernel
theorem dS_spoilPage_6 : decode cS_spoilPage 6 = .ok (.invokestatic 98, 3) := by decide +kernel
theorem dS_spoilPage_9 : decode cS_spoilPage 9 = .ok (.ifCond .eq 12, 3) := by decide +kernel
theorem dS_spoilPage_12 : decode cS_spoilPage 12 = .ok (.aload_n 0, 1) := by decide +kernel
theorem dS_spoilPage_13 : decode cS_spoilPage 13 = .ok (.getfield 28, 3) := by decide +kernel
theorem dS_spoilPage_16 : decode cS_spoilPage 16 = .ok (.iload_n 1, 1) := by decide +kernel
theorem dS_spoilPage_17 : decode cS_spoilPage 17 = .ok (.baload, 1) := by decide +kernel
theorem dS_spoilPage_18 : decode cS_spoilPage 18 = .ok (.ifCond .eq 5, 3) := by decide +kernel
theorem dS_spoilPage_21 : decode cS_spoilPage 21 = .ok (.iconst 0, 1) := by decide +kernel
theorem dS_spoilPage_22 : decode cS_spoilPage 22 = .ok (.ireturn, 1) := by decide +kernel
theorem dS_spoilPage_23 : decode cS_spoilPage 23 = .ok (.aload_n 0, 1) := by decide +kernel
theorem dS_spoilPage_24 : decode cS_spoilPage 24 = .ok (.getfield 28, 3) := by decide +kernel
theorem dS_spoilPage_27 : decode cS_spoilPage 27 = .ok (.iload_n 1, 1) := by decide +kernel
theorem dS_spoilPage_28 : decode cS_spoilPage 28 = .ok (.iconst 1, 1) := by decide +kernel
theorem dS_spoilPage_29 : decode cS_spoilPage 29 = .ok (.bastore, 1) := by decide +kernel
theorem dS_spoilPage_30 : decode cS_spoilPage 30 = .ok (.iconst 1, 1) := by decide +kernel
theorem dS_spoilPage_31 : decode cS_spoilPage 31 = .ok (.ireturn, 1) := by decide +kernel
theorem dS_unreadableBundles_0 : decode cS_unreadableBundles 0 = .ok (.iconst 0, 1) := by decide +kernel
theorem dS_unreadableBundles_1 : decode cS_unreadableBundles 1 = .ok (.istore_n 1, 1) := by decide +kernel
theorem dS_unreadableBundles_2 : decode cS_unreadableBundles 2 = .ok (.iconst 0, 1) := by decide +kernel
theorem dS_unreadableBundles_3 : decode cS_unreadableBundles 3 = .ok (.istore_n 2, 1) := by decide +kernel
theorem dS_unreadableBundles_4 : decode cS_unreadableBundles 4 = .ok (.iload_n 2, 1) := by decide +kernel
theorem dS_unreadableBundles_5 : decode cS_unreadableBundles 5 = .ok (.aload_n 0, 1) := by decide +kernel
theorem dS_unreadableBundles_6 : decode cS_unreadableBundles 6 = .ok (.getfield 24, 3) := by decide +kernel
theorem dS_unreadableBundles_9 : decode cS_unreadableBundles 9 = .ok (.arraylength, 1) := by decide +kernel
theorem dS_unreadableBundles_10 : decode cS_unreadableBundles 10 = .ok (.if_icmp .ge 47, 3) := by decide +kernel
theorem dS_unreadableBundles_13 : decode cS_unreadableBundles 13 = .ok (.aload_n 0, 1) := by decide +kernel
theorem dS_unreadableBundles_14 : decode cS_unreadableBundles 14 = .ok (.getfield 24, 3) := by decide +kernel
theorem dS_unreadableBundles_17 : decode cS_unreadableBundles 17 = .ok (.iload_n 2, 1) := by decide +kernel
theorem dS_unreadableBundles_18 : decode cS_unreadableBundles 18 = .ok (.aaload, 1) := by decide +kernel
theorem dS_unreadableBundles_19 : decode cS_unreadableBundles 19 = .ok (.ifnull 32, 3) := by decide +kernel
theorem dS_unreadableBundles_22 : decode cS_unreadableBundles 22 = .ok (.aload_n 0, 1) := by decide +kernel
theorem dS_unreadableBundles_23 : decode cS_unreadableBundles 23 = .ok (.getfield 28, 3) := by decide +kernel
theorem dS_unreadableBundles_26 : decode cS_unreadableBundles 26 = .ok (.iload_n 2, 1) := by decide +kernel
theorem dS_unreadableBundles_27 : decode cS_unreadableBundles 27 = .ok (.baload, 1) := by decide +kernel
theorem dS_unreadableBundles_28 : decode cS_unreadableBundles 28 = .ok (.ifCond .eq 23, 3) := by decide +kernel
theorem dS_unreadableBundles_31 : decode cS_unreadableBundles 31 = .ok (.aload_n 0, 1) := by decide +kernel
theorem dS_unreadableBundles_32 : decode cS_unreadableBundles 32 = .ok (.iload_n 2, 1) := by decide +kernel
theorem dS_unreadableBundles_33 : decode cS_unreadableBundles 33 = .ok (.aload_n 0, 1) := by decide +kernel
theorem dS_unreadableBundles_34 : decode cS_unreadableBundles 34 = .ok (.getfield 24, 3) := by decide +kernel
theorem dS_unreadableBundles_37 : decode cS_unreadableBundles 37 = .ok (.iload_n 2, 1) := by decide +kernel
theorem dS_unreadableBundles_38 : decode cS_unreadableBundles 38 = .ok (.aaload, 1) := by decide +kernel
theorem dS_unreadableBundles_39 : decode cS_unreadableBundles 39 = .ok (.getfield 62, 3) := by decide +kernel
theorem dS_unreadableBundles_42 : decode cS_unreadableBundles 42 = .ok (.invokevirtual 101, 3) := by decide +kernel
theorem dS_unreadableBundles_45 : decode cS_unreadableBundles 45 = .ok (.ifCond .ne 6, 3) := by decide +kernel
theorem dS_unreadableBundles_48 : decode cS_unreadableBundles 48 = .ok (.iinc 1 1, 3) := by decide +kernel
theorem dS_unreadableBundles_51 : decode cS_unreadableBundles 51 = .ok (.iinc 2 1, 3) := by decide +kernel
theorem dS_unreadableBundles_54 : decode cS_unreadableBundles 54 = .ok (.goto (-50), 3) := by decide +kernel
theorem dS_unreadableBundles_57 : decode cS_unreadableBundles 57 = .ok (.iload_n 1, 1) := by decide +kernel
theorem dS_unreadableBundles_58 : decode cS_unreadableBundles 58 = .ok (.ireturn, 1) := by decide +kernel
theorem dS_isSpoiledBefore_0 : decode cS_isSpoiledBefore 0 = .ok (.iconst 0, 1) := by decide +kernel
theorem dS_isSpoiledBefore_1 : decode cS_isSpoiledBefore 1 = .ok (.istore_n 3, 1) := by decide +kernel
theorem dS_isSpoiledBefore_2 : decode cS_isSpoiledBefore 2 = .ok (.iload_n 3, 1) := by decide +kernel
theorem dS_isSpoiledBefore_3 : decode cS_isSpoiledBefore 3 = .ok (.iload_n 1, 1) := by decide +kernel
theorem dS_isSpoiledBefore_4 : decode cS_isSpoiledBefore 4 = .ok (.if_icmp .ge 29, 3) := by decide +kernel
theorem dS_isSpoiledBefore_7 : decode cS_isSpoiledBefore 7 = .ok (.aload_n 0, 1) := by decide +kernel
theorem dS_isSpoiledBefore_8 : decode cS_isSpoiledBefore 8 = .ok (.getfield 28, 3) := by decide +kernel
theorem dS_isSpoiledBefore_11 : decode cS_isSpoiledBefore 11 = .ok (.iload_n 3, 1) := by decide +kernel
theorem dS_isSpoiledBefore_12 : decode cS_isSpoiledBefore 12 = .ok (.baload, 1) := by decide +kernel
theorem dS_isSpoiledBefore_13 : decode cS_isSpoiledBefore 13 = .ok (.ifCond .eq 14, 3) := by decide +kernel
theorem dS_isSpoiledBefore_16 : decode cS_isSpoiledBefore 16 = .ok (.aload_n 0, 1) := by decide +kernel
theorem dS_isSpoiledBefore_17 : decode cS_isSpoiledBefore 17 = .ok (.iload_n 3, 1) := by decide +kernel
theorem dS_isSpoiledBefore_18 : decode cS_isSpoiledBefore 18 = .ok (.iload_n 2, 1) := by decide +kernel
theorem dS_isSpoiledBefore_19 : decode cS_isSpoiledBefore 19 = .ok (.invokevirtual 65, 3) := by decide +kernel
theorem dS_isSpoiledBefore_22 : decode cS_isSpoiledBefore 22 = .ok (.ifCond .eq 5, 3) := by decide +kernel
theorem dS_isSpoiledBefore_25 : decode cS_isSpoiledBefore 25 = .ok (.iconst 1, 1) := by decide +kernel
theorem dS_isSpoiledBefore_26 : decode cS_isSpoiledBefore 26 = .ok (.ireturn, 1) := by decide +kernel
theorem dS_isSpoiledBefore_27 : decode cS_isSpoiledBefore 27 = .ok (.iinc 3 1, 3) := by decide +kernel
theorem dS_isSpoiledBefore_30 : decode cS_isSpoiledBefore 30 = .ok (.goto (-28), 3) := by decide +kernel
theorem dS_isSpoiledBefore_33 : decode cS_isSpoiledBefore 33 = .ok (.iconst 0, 1) := by decide +kernel
theorem dS_isSpoiledBefore_34 : decode cS_isSpoiledBefore 34 = .ok (.ireturn, 1) := by decide +kernel
theorem dS_take_0 : decode cS_take 0 = .ok (.aload_n 0, 1) := by decide +kernel
theorem dS_take_1 : decode cS_take 1 = .ok (.getfield 9, 3) := by decide +kernel
theorem dS_take_4 : decode cS_take 4 = .ok (.ifCond .eq 5, 3) := by decide +kernel
theorem dS_take_7 : decode cS_take 7 = .ok (.iconst 0, 1) := by decide +kernel
theorem dS_take_8 : decode cS_take 8 = .ok (.ireturn, 1) := by decide +kernel
theorem dS_take_9 : decode cS_take 9 = .ok (.aload_n 1, 1) := by decide +kernel
theorem dS_take_10 : decode cS_take 10 = .ok (.aload_n 0, 1) := by decide +kernel
theorem dS_take_11 : decode cS_take 11 = .ok (.getfield 15, 3) := by decide +kernel
theorem dS_take_14 : decode cS_take 14 = .ok (.invokevirtual 32, 3) := by decide +kernel
theorem dS_take_17 : decode cS_take 17 = .ok (.istore 4, 2) := by decide +kernel
theorem dS_take_19 : decode cS_take 19 = .ok (.aload_n 0, 1) := by decide +kernel
theorem dS_take_20 : decode cS_take 20 = .ok (.iload 4, 2) := by decide +kernel
theorem dS_take_22 : decode cS_take 22 = .ok (.aload_n 2, 1) := by decide +kernel
theorem dS_take_23 : decode cS_take 23 = .ok (.invokevirtual 36, 3) := by decide +kernel
theorem dS_take_26 : decode cS_take 26 = .ok (.ifCond .eq 18, 3) := by decide +kernel
theorem dS_take_29 : decode cS_take 29 = .ok (.aload_n 0, 1) := by decide +kernel
theorem dS_take_30 : decode cS_take 30 = .ok (.aload_n 1, 1) := by decide +kernel
theorem dS_take_31 : decode cS_take 31 = .ok (.iload 4, 2) := by decide +kernel
theorem dS_take_33 : decode cS_take 33 = .ok (.aload_n 3, 1) := by decide +kernel
theorem dS_take_34 : decode cS_take 34 = .ok (.invokevirtual 40, 3) := by decide +kernel
theorem dS_take_37 : decode cS_take 37 = .ok (.ifCond .eq 7, 3) := by decide +kernel
theorem dS_take_40 : decode cS_take 40 = .ok (.iconst 1, 1) := by decide +kernel
theorem dS_take_41 : decode cS_take 41 = .ok (.goto 4, 3) := by decide +kernel
theorem dS_take_44 : decode cS_take 44 = .ok (.iconst 0, 1) := by decide +kernel
theorem dS_take_45 : decode cS_take 45 = .ok (.ireturn, 1) := by decide +kernel
theorem dS_makeRoom_0 : decode cS_makeRoom 0 = .ok (.iconst 0, 1) := by decide +kernel
theorem dS_makeRoom_1 : decode cS_makeRoom 1 = .ok (.istore_n 3, 1) := by decide +kernel
theorem dS_makeRoom_2 : decode cS_makeRoom 2 = .ok (.iload_n 3, 1) := by decide +kernel
theorem dS_makeRoom_3 : decode cS_makeRoom 3 = .ok (.aload_n 0, 1) := by decide +kernel
theorem dS_makeRoom_4 : decode cS_makeRoom 4 = .ok (.getfield 24, 3) := by decide +kernel
theorem dS_makeRoom_7 : decode cS_makeRoom 7 = .ok (.arraylength, 1) := by decide +kernel
theorem dS_makeRoom_8 : decode cS_makeRoom 8 = .ok (.if_icmp .ge 38, 3) := by decide +kernel
theorem dS_makeRoom_11 : decode cS_makeRoom 11 = .ok (.aload_n 0, 1) := by decide +kernel
theorem dS_makeRoom_12 : decode cS_makeRoom 12 = .ok (.invokevirtual 44, 3) := by decide +kernel
theorem dS_makeRoom_15 : decode cS_makeRoom 15 = .ok (.iload_n 1, 1) := by decide +kernel
theorem dS_makeRoom_16 : decode cS_makeRoom 16 = .ok (.if_icmp .ge 30, 3) := by decide +kernel
theorem dS_makeRoom_19 : decode cS_makeRoom 19 = .ok (.aload_n 0, 1) := by decide +kernel
theorem dS_makeRoom_20 : decode cS_makeRoom 20 = .ok (.aload_n 2, 1) := by decide +kernel
theorem dS_makeRoom_21 : decode cS_makeRoom 21 = .ok (.invokevirtual 48, 3) := by decide +kernel
theorem dS_makeRoom_24 : decode cS_makeRoom 24 = .ok (.istore 4, 2) := by decide +kernel
theorem dS_makeRoom_26 : decode cS_makeRoom 26 = .ok (.iload 4, 2) := by decide +kernel
theorem dS_makeRoom_28 : decode cS_makeRoom 28 = .ok (.iconst (-1), 1) := by decide +kernel
theorem dS_makeRoom_29 : decode cS_makeRoom 29 = .ok (.if_icmp .ne 5, 3) := by decide +kernel
theorem dS_makeRoom_32 : decode cS_makeRoom 32 = .ok (.iconst 0, 1) := by decide +kernel
theorem dS_makeRoom_33 : decode cS_makeRoom 33 = .ok (.ireturn, 1) := by decide +kernel
theorem dS_makeRoom_34 : decode cS_makeRoom 34 = .ok (.aload_n 0, 1) := by decide +kernel
theorem dS_makeRoom_35 : decode cS_makeRoom 35 = .ok (.iload 4, 2) := by decide +kernel
theorem dS_makeRoom_37 : decode cS_makeRoom 37 = .ok (.invokevirtual 52, 3) := by decide +kernel
theorem dS_makeRoom_40 : decode cS_makeRoom 40 = .ok (.iinc 3 1, 3) := by decide +kernel
theorem dS_makeRoom_43 : decode cS_makeRoom 43 = .ok (.goto (-41), 3) := by decide +kernel
theorem dS_makeRoom_46 : decode cS_makeRoom 46 = .ok (.aload_n 0, 1) := by decide +kernel
theorem dS_makeRoom_47 : decode cS_makeRoom 47 = .ok (.invokevirtual 44, 3) := by decide +kernel
theorem dS_makeRoom_50 : decode cS_makeRoom 50 = .ok (.iload_n 1, 1) := by decide +kernel
theorem dS_makeRoom_51 : decode cS_makeRoom 51 = .ok (.if_icmp .lt 7, 3) := by decide +kernel
theorem dS_makeRoom_54 : decode cS_makeRoom 54 = .ok (.iconst 1, 1) := by decide +kernel
theorem dS_makeRoom_55 : decode cS_makeRoom 55 = .ok (.goto 4, 3) := by decide +kernel
theorem dS_makeRoom_58 : decode cS_makeRoom 58 = .ok (.iconst 0, 1) := by decide +kernel
theorem dS_makeRoom_59 : decode cS_makeRoom 59 = .ok (.ireturn, 1) := by decide +kernel
theorem dS_earliestNotFrozen_0 : decode cS_earliestNotFrozen 0 = .ok (.iconst (-1), 1) := by decide +kernel
theorem dS_earliestNotFrozen_1 : decode cS_earliestNotFrozen 1 = .ok (.istore_n 2, 1) := by decide +kernel
theorem dS_earliestNotFrozen_2 : decode cS_earliestNotFrozen 2 = .ok (.iconst 0, 1) := by decide +kernel
theorem dS_earliestNotFrozen_3 : decode cS_earliestNotFrozen 3 = .ok (.istore_n 3, 1) := by decide +kernel
theorem dS_earliestNotFrozen_4 : decode cS_earliestNotFrozen 4 = .ok (.iload_n 3, 1) := by decide +kernel
theorem dS_earliestNotFrozen_5 : decode cS_earliestNotFrozen 5 = .ok (.aload_n 0, 1) := by decide +kernel
theorem dS_earliestNotFrozen_6 : decode cS_earliestNotFrozen 6 = .ok (.getfield 24, 3) := by decide +kernel
theorem dS_earliestNotFrozen_9 : decode cS_earliestNotFrozen 9 = .ok (.arraylength, 1) := by decide +kernel
theorem dS_earliestNotFrozen_10 : decode cS_earliestNotFrozen 10 = .ok (.if_icmp .ge 42, 3) := by decide +kernel
theorem dS_earliestNotFrozen_13 : decode cS_earliestNotFrozen 13 = .ok (.aload_n 0, 1) := by decide +kernel
theorem dS_earliestNotFrozen_14 : decode cS_earliestNotFrozen 14 = .ok (.getfield 24, 3) := by decide +kernel
theorem dS_earliestNotFrozen_17 : decode cS_earliestNotFrozen 17 = .ok (.iload_n 3, 1) := by decide +kernel
theorem dS_earliestNotFrozen_18 : decode cS_earliestNotFrozen 18 = .ok (.aaload, 1) := by decide +kernel
theorem dS_earliestNotFrozen_19 : decode cS_earliestNotFrozen 19 = .ok (.astore 4, 2) := by decide +kernel
theorem dS_earliestNotFrozen_21 : decode cS_earliestNotFrozen 21 = .ok (.aload 4, 2) := by decide +kernel
theorem dS_earliestNotFrozen_23 : decode cS_earliestNotFrozen 23 = .ok (.ifnull 23, 3) := by decide +kernel
theorem dS_earliestNotFrozen_26 : decode cS_earliestNotFrozen 26 = .ok (.aload_n 0, 1) := by decide +kernel
theorem dS_earliestNotFrozen_27 : decode cS_earliestNotFrozen 27 = .ok (.aload 4, 2) := by decide +kernel
theorem dS_earliestNotFrozen_29 : decode cS_earliestNotFrozen 29 = .ok (.aload_n 1, 1) := by decide +kernel
theorem dS_earliestNotFrozen_30 : decode cS_earliestNotFrozen 30 = .ok (.invokevirtual 75, 3) := by decide +kernel
theorem dS_earliestNotFrozen_33 : decode cS_earliestNotFrozen 33 = .ok (.ifCond .ne 13, 3) := by decide +kernel
theorem dS_earliestNotFrozen_36 : decode cS_earliestNotFrozen 36 = .ok (.iload_n 2, 1) := by decide +kernel
theorem dS_earliestNotFrozen_37 : decode cS_earliestNotFrozen 37 = .ok (.aload 4, 2) := by decide +kernel
theorem dS_earliestNotFrozen_39 : decode cS_earliestNotFrozen 39 = .ok (.getfield 62, 3) := by decide +kernel
theorem dS_earliestNotFrozen_42 : decode cS_earliestNotFrozen 42 = .ok (.invokestatic 79, 3) := by decide +kernel
theorem dS_earliestNotFrozen_45 : decode cS_earliestNotFrozen 45 = .ok (.istore_n 2, 1) := by decide +kernel
theorem dS_earliestNotFrozen_46 : decode cS_earliestNotFrozen 46 = .ok (.iinc 3 1, 3) := by decide +kernel
theorem dS_earliestNotFrozen_49 : decode cS_earliestNotFrozen 49 = .ok (.goto (-45), 3) := by decide +kernel
theorem dS_earliestNotFrozen_52 : decode cS_earliestNotFrozen 52 = .ok (.iload_n 2, 1) := by decide +kernel
theorem dS_earliestNotFrozen_53 : decode cS_earliestNotFrozen 53 = .ok (.ireturn, 1) := by decide +kernel
theorem dS_isFrozen_0 : decode cS_isFrozen 0 = .ok (.aload_n 0, 1) := by decide +kernel
theorem dS_isFrozen_1 : decode cS_isFrozen 1 = .ok (.getfield 19, 3) := by decide +kernel
theorem dS_isFrozen_4 : decode cS_isFrozen 4 = .ok (.ifCond .eq 18, 3) := by decide +kernel
theorem dS_isFrozen_7 : decode cS_isFrozen 7 = .ok (.aload_n 2, 1) := by decide +kernel
theorem dS_isFrozen_8 : decode cS_isFrozen 8 = .ok (.aload_n 1, 1) := by decide +kernel
theorem dS_isFrozen_9 : decode cS_isFrozen 9 = .ok (.getfield 62, 3) := by decide +kernel
theorem dS_isFrozen_12 : decode cS_isFrozen 12 = .ok (.invokevirtual 69, 3) := by decide +kernel
theorem dS_isFrozen_15 : decode cS_isFrozen 15 = .ok (.ifCond .eq 7, 3) := by decide +kernel
theorem dS_isFrozen_18 : decode cS_isFrozen 18 = .ok (.iconst 1, 1) := by decide +kernel
theorem dS_isFrozen_19 : decode cS_isFrozen 19 = .ok (.goto 4, 3) := by decide +kernel
theorem dS_isFrozen_22 : decode cS_isFrozen 22 = .ok (.iconst 0, 1) := by decide +kernel
theorem dS_isFrozen_23 : decode cS_isFrozen 23 = .ok (.ireturn, 1) := by decide +kernel
theorem dS_takeOut_0 : decode cS_takeOut 0 = .ok (.iconst 0, 1) := by decide +kernel
theorem dS_takeOut_1 : decode cS_takeOut 1 = .ok (.istore_n 2, 1) := by decide +kernel
theorem dS_takeOut_2 : decode cS_takeOut 2 = .ok (.iload_n 2, 1) := by decide +kernel
theorem dS_takeOut_3 : decode cS_takeOut 3 = .ok (.aload_n 0, 1) := by decide +kernel
theorem dS_takeOut_4 : decode cS_takeOut 4 = .ok (.getfield 24, 3) := by decide +kernel
theorem dS_takeOut_7 : decode cS_takeOut 7 = .ok (.arraylength, 1) := by decide +kernel
theorem dS_takeOut_8 : decode cS_takeOut 8 = .ok (.if_icmp .ge 25, 3) := by decide +kernel
theorem dS_takeOut_11 : decode cS_takeOut 11 = .ok (.aload_n 0, 1) := by decide +kernel
theorem dS_takeOut_12 : decode cS_takeOut 12 = .ok (.iload_n 2, 1) := by decide +kernel
theorem dS_takeOut_13 : decode cS_takeOut 13 = .ok (.iload_n 1, 1) := by decide +kernel
theorem dS_takeOut_14 : decode cS_takeOut 14 = .ok (.invokevirtual 65, 3) := by decide +kernel
theorem dS_takeOut_17 : decode cS_takeOut 17 = .ok (.ifCond .eq 10, 3) := by decide +kernel
theorem dS_takeOut_20 : decode cS_takeOut 20 = .ok (.aload_n 0, 1) := by decide +kernel
theorem dS_takeOut_21 : decode cS_takeOut 21 = .ok (.getfield 24, 3) := by decide +kernel
theorem dS_takeOut_24 : decode cS_takeOut 24 = .ok (.iload_n 2, 1) := by decide +kernel
theorem dS_takeOut_25 : decode cS_takeOut 25 = .ok (.aconst_null, 1) := by decide +kernel
theorem dS_takeOut_26 : decode cS_takeOut 26 = .ok (.aastore, 1) := by decide +kernel
theorem dS_takeOut_27 : decode cS_takeOut 27 = .ok (.iinc 2 1, 3) := by decide +kernel
theorem dS_takeOut_30 : decode cS_takeOut 30 = .ok (.goto (-28), 3) := by decide +kernel
theorem dS_takeOut_33 : decode cS_takeOut 33 = .ok (.return_, 1) := by decide +kernel
theorem dS_write_0 : decode cS_write 0 = .ok (.iconst 0, 1) := by decide +kernel
theorem dS_write_1 : decode cS_write 1 = .ok (.istore 4, 2) := by decide +kernel
theorem dS_write_3 : decode cS_write 3 = .ok (.iconst 0, 1) := by decide +kernel
theorem dS_write_4 : decode cS_write 4 = .ok (.istore 5, 2) := by decide +kernel
theorem dS_write_6 : decode cS_write 6 = .ok (.iload 5, 2) := by decide +kernel
theorem dS_write_8 : decode cS_write 8 = .ok (.aload_n 0, 1) := by decide +kernel
theorem dS_write_9 : decode cS_write 9 = .ok (.getfield 24, 3) := by decide +kernel
theorem dS_write_12 : decode cS_write 12 = .ok (.arraylength, 1) := by decide +kernel
theorem dS_write_13 : decode cS_write 13 = .ok (.if_icmp .ge 61, 3) := by decide +kernel
theorem dS_write_16 : decode cS_write 16 = .ok (.iload 4, 2) := by decide +kernel
theorem dS_write_18 : decode cS_write 18 = .ok (.iload_n 2, 1) := by decide +kernel
theorem dS_write_19 : decode cS_write 19 = .ok (.if_icmp .ge 55, 3) := by decide +kernel
theorem dS_write_22 : decode cS_write 22 = .ok (.aload_n 0, 1) := by decide +kernel
theorem dS_write_23 : decode cS_write 23 = .ok (.getfield 24, 3) := by decide +kernel
theorem dS_write_26 : decode cS_write 26 = .ok (.iload 5, 2) := by decide +kernel
theorem dS_write_28 : decode cS_write 28 = .ok (.aaload, 1) := by decide +kernel
theorem dS_write_29 : decode cS_write 29 = .ok (.ifnonnull 39, 3) := by decide +kernel
theorem dS_write_32 : decode cS_write 32 = .ok (.aload_n 3, 1) := by decide +kernel
theorem dS_write_33 : decode cS_write 33 = .ok (.invokevirtual 56, 3) := by decide +kernel
theorem dS_write_36 : decode cS_write 36 = .ok (.ifCond .eq 13, 3) := by decide +kernel
theorem dS_write_39 : decode cS_write 39 = .ok (.aload_n 0, 1) := by decide +kernel
theorem dS_write_40 : decode cS_write 40 = .ok (.aload_n 1, 1) := by decide +kernel
theorem dS_write_41 : decode cS_write 41 = .ok (.getfield 62, 3) := by decide +kernel
theorem dS_write_44 : decode cS_write 44 = .ok (.invokevirtual 52, 3) := by decide +kernel
theorem dS_write_47 : decode cS_write 47 = .ok (.iconst 0, 1) := by decide +kernel
theorem dS_write_48 : decode cS_write 48 = .ok (.ireturn, 1) := by decide +kernel
theorem dS_write_49 : decode cS_write 49 = .ok (.aload_n 0, 1) := by decide +kernel
theorem dS_write_50 : decode cS_write 50 = .ok (.getfield 24, 3) := by decide +kernel
theorem dS_write_53 : decode cS_write 53 = .ok (.iload 5, 2) := by decide +kernel
theorem dS_write_55 : decode cS_write 55 = .ok (.aload_n 1, 1) := by decide +kernel
theorem dS_write_56 : decode cS_write 56 = .ok (.aastore, 1) := by decide +kernel
theorem dS_write_57 : decode cS_write 57 = .ok (.aload_n 0, 1) := by decide +kernel
theorem dS_write_58 : decode cS_write 58 = .ok (.getfield 28, 3) := by decide +kernel
theorem dS_write_61 : decode cS_write 61 = .ok (.iload 5, 2) := by decide +kernel
theorem dS_write_63 : decode cS_write 63 = .ok (.iconst 0, 1) := by decide +kernel
theorem dS_write_64 : decode cS_write 64 = .ok (.bastore, 1) := by decide +kernel
theorem dS_write_65 : decode cS_write 65 = .ok (.iinc 4 1, 3) := by decide +kernel
theorem dS_write_68 : decode cS_write 68 = .ok (.iinc 5 1, 3) := by decide +kernel
theorem dS_write_71 : decode cS_write 71 = .ok (.goto (-65), 3) := by decide +kernel
theorem dS_write_74 : decode cS_write 74 = .ok (.iconst 1, 1) := by decide +kernel
theorem dS_write_75 : decode cS_write 75 = .ok (.ireturn, 1) := by decide +kernel
theorem dS_pagesHeld_0 : decode cS_pagesHeld 0 = .ok (.iconst 0, 1) := by decide +kernel
theorem dS_pagesHeld_1 : decode cS_pagesHeld 1 = .ok (.istore_n 2, 1) := by decide +kernel
theorem dS_pagesHeld_2 : decode cS_pagesHeld 2 = .ok (.iconst 0, 1) := by decide +kernel
theorem dS_pagesHeld_3 : decode cS_pagesHeld 3 = .ok (.istore_n 3, 1) := by decide +kernel
theorem dS_pagesHeld_4 : decode cS_pagesHeld 4 = .ok (.iload_n 3, 1) := by decide +kernel
theorem dS_pagesHeld_5 : decode cS_pagesHeld 5 = .ok (.aload_n 0, 1) := by decide +kernel
theorem dS_pagesHeld_6 : decode cS_pagesHeld 6 = .ok (.getfield 24, 3) := by decide +kernel
theorem dS_pagesHeld_9 : decode cS_pagesHeld 9 = .ok (.arraylength, 1) := by decide +kernel
theorem dS_pagesHeld_10 : decode cS_pagesHeld 10 = .ok (.if_icmp .ge 35, 3) := by decide +kernel
theorem dS_pagesHeld_13 : decode cS_pagesHeld 13 = .ok (.aload_n 0, 1) := by decide +kernel
theorem dS_pagesHeld_14 : decode cS_pagesHeld 14 = .ok (.getfield 24, 3) := by decide +kernel
theorem dS_pagesHeld_17 : decode cS_pagesHeld 17 = .ok (.iload_n 3, 1) := by decide +kernel
theorem dS_pagesHeld_18 : decode cS_pagesHeld 18 = .ok (.aaload, 1) := by decide +kernel
theorem dS_pagesHeld_19 : decode cS_pagesHeld 19 = .ok (.astore 4, 2) := by decide +kernel
theorem dS_pagesHeld_21 : decode cS_pagesHeld 21 = .ok (.aload 4, 2) := by decide +kernel
theorem dS_pagesHeld_23 : decode cS_pagesHeld 23 = .ok (.ifnull 16, 3) := by decide +kernel
theorem dS_pagesHeld_26 : decode cS_pagesHeld 26 = .ok (.aload_n 0, 1) := by decide +kernel
theorem dS_pagesHeld_27 : decode cS_pagesHeld 27 = .ok (.aload 4, 2) := by decide +kernel
theorem dS_pagesHeld_29 : decode cS_pagesHeld 29 = .ok (.aload_n 1, 1) := by decide +kernel
theorem dS_pagesHeld_30 : decode cS_pagesHeld 30 = .ok (.invokevirtual 75, 3) := by decide +kernel
theorem dS_pagesHeld_33 : decode cS_pagesHeld 33 = .ok (.ifCond .eq 6, 3) := by decide +kernel
theorem dS_pagesHeld_36 : decode cS_pagesHeld 36 = .ok (.iinc 2 1, 3) := by decide +kernel
theorem dS_pagesHeld_39 : decode cS_pagesHeld 39 = .ok (.iinc 3 1, 3) := by decide +kernel
theorem dS_pagesHeld_42 : decode cS_pagesHeld 42 = .ok (.goto (-38), 3) := by decide +kernel
theorem dS_pagesHeld_45 : decode cS_pagesHeld 45 = .ok (.iload_n 2, 1) := by decide +kernel
theorem dS_pagesHeld_46 : decode cS_pagesHeld 46 = .ok (.ireturn, 1) := by decide +kernel
