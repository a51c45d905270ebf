theorem dX7_init_0 : decode cX7_init 0 = .ok (.aload_n 0, 1) := by decide +kernel
theorem dX7_init_1 : decode cX7_init 1 = .ok (.invokespecial 1, 3) := by decide +kernel
theorem dX7_init_4 : decode cX7_init 4 = .ok (.aload_n 0, 1) := by decide +kernel
theorem dX7_init_5 : decode cX7_init 5 = .ok (.sipush 400, 3) := by decide +kernel
theorem dX7_init_8 : decode cX7_init 8 = .ok (.newarray .int, 2) := by decide +kernel
theorem dX7_init_10 : decode cX7_init 10 = .ok (.putfield 7, 3) := by decide +kernel
theorem dX7_init_13 : decode cX7_init 13 = .ok (.aload_n 0, 1) := by decide +kernel
theorem dX7_init_14 : decode cX7_init 14 = .ok (.bipush 56, 2) := by decide +kernel
theorem dX7_init_16 : decode cX7_init 16 = .ok (.newarray .int, 2) := by decide +kernel
theorem dX7_init_18 : decode cX7_init 18 = .ok (.putfield 13, 3) := by decide +kernel
theorem dX7_init_21 : decode cX7_init 21 = .ok (.aload_n 0, 1) := by decide +kernel
theorem dX7_init_22 : decode cX7_init 22 = .ok (.bipush 56, 2) := by decide +kernel
theorem dX7_init_24 : decode cX7_init 24 = .ok (.newarray .int, 2) := by decide +kernel
theorem dX7_init_26 : decode cX7_init 26 = .ok (.putfield 16, 3) := by decide +kernel
theorem dX7_init_29 : decode cX7_init 29 = .ok (.aload_n 0, 1) := by decide +kernel
theorem dX7_init_30 : decode cX7_init 30 = .ok (.bipush 32, 2) := by decide +kernel
theorem dX7_init_32 : decode cX7_init 32 = .ok (.newarray .int, 2) := by decide +kernel
theorem dX7_init_34 : decode cX7_init 34 = .ok (.putfield 19, 3) := by decide +kernel
theorem dX7_init_37 : decode cX7_init 37 = .ok (.aload_n 0, 1) := by decide +kernel
theorem dX7_init_38 : decode cX7_init 38 = .ok (.bipush 32, 2) := by decide +kernel
theorem dX7_init_40 : decode cX7_init 40 = .ok (.newarray .int, 2) := by decide +kernel
theorem dX7_init_42 : decode cX7_init 42 = .ok (.putfield 22, 3) := by decide +kernel
theorem dX7_init_45 : decode cX7_init 45 = .ok (.aload_n 0, 1) := by decide +kernel
theorem dX7_init_46 : decode cX7_init 46 = .ok (.bipush 64, 2) := by decide +kernel
theorem dX7_init_48 : decode cX7_init 48 = .ok (.newarray .int, 2) := by decide +kernel
theorem dX7_init_50 : decode cX7_init 50 = .ok (.putfield 25, 3) := by decide +kernel
theorem dX7_init_53 : decode cX7_init 53 = .ok (.aload_n 0, 1) := by decide +kernel
theorem dX7_init_54 : decode cX7_init 54 = .ok (.iconst 2, 1) := by decide +kernel
theorem dX7_init_55 : decode cX7_init 55 = .ok (.newarray .int, 2) := by decide +kernel
theorem dX7_init_57 : decode cX7_init 57 = .ok (.putfield 28, 3) := by decide +kernel
theorem dX7_init_60 : decode cX7_init 60 = .ok (.aload_n 0, 1) := by decide +kernel
theorem dX7_init_61 : decode cX7_init 61 = .ok (.iconst 2, 1) := by decide +kernel
theorem dX7_init_62 : decode cX7_init 62 = .ok (.newarray .boolean, 2) := by decide +kernel
theorem dX7_init_64 : decode cX7_init 64 = .ok (.putfield 31, 3) := by decide +kernel
theorem dX7_init_67 : decode cX7_init 67 = .ok (.aload_n 0, 1) := by decide +kernel
theorem dX7_init_68 : decode cX7_init 68 = .ok (.bipush 12, 2) := by decide +kernel
theorem dX7_init_70 : decode cX7_init 70 = .ok (.newarray .int, 2) := by decide +kernel
theorem dX7_init_72 : decode cX7_init 72 = .ok (.putfield 35, 3) := by decide +kernel
theorem dX7_init_75 : decode cX7_init 75 = .ok (.aload_n 0, 1) := by decide +kernel
theorem dX7_init_76 : decode cX7_init 76 = .ok (.bipush 12, 2) := by decide +kernel
theorem dX7_init_78 : decode cX7_init 78 = .ok (.newarray .int, 2) := by decide +kernel
theorem dX7_init_80 : decode cX7_init 80 = .ok (.putfield 38, 3) := by decide +kernel
theorem dX7_init_83 : decode cX7_init 83 = .ok (.aload_n 0, 1) := by decide +kernel
theorem dX7_init_84 : decode cX7_init 84 = .ok (.iconst (-1), 1) := by decide +kernel
theorem dX7_init_85 : decode cX7_init 85 = .ok (.putfield 41, 3) := by decide +kernel
theorem dX7_init_88 : decode cX7_init 88 = .ok (.aload_n 0, 1) := by decide +kernel
theorem dX7_init_89 : decode cX7_init 89 = .ok (.bipush 6, 2) := by decide +kernel
theorem dX7_init_91 : decode cX7_init 91 = .ok (.newarray .int, 2) := by decide +kernel
theorem dX7_init_93 : decode cX7_init 93 = .ok (.putfield 45, 3) := by decide +kernel
theorem dX7_init_96 : decode cX7_init 96 = .ok (.aload_n 0, 1) := by decide +kernel
theorem dX7_init_97 : decode cX7_init 97 = .ok (.bipush 6, 2) := by decide +kernel
theorem dX7_init_99 : decode cX7_init 99 = .ok (.newarray .int, 2) := by decide +kernel
theorem dX7_init_101 : decode cX7_init 101 = .ok (.putfield 48, 3) := by decide +kernel
theorem dX7_init_104 : decode cX7_init 104 = .ok (.aload_n 0, 1) := by decide +kernel
theorem dX7_init_105 : decode cX7_init 105 = .ok (.bipush 6, 2) := by decide +kernel
theorem dX7_init_107 : decode cX7_init 107 = .ok (.newarray .int, 2) := by decide +kernel
theorem dX7_init_109 : decode cX7_init 109 = .ok (.putfield 51, 3) := by decide +kernel
theorem dX7_init_112 : decode cX7_init 112 = .ok (.aload_n 0, 1) := by decide +kernel
theorem dX7_init_113 : decode cX7_init 113 = .ok (.invokevirtual 54, 3) := by decide +kernel
theorem dX7_init_116 : decode cX7_init 116 = .ok (.pop, 1) := by decide +kernel
theorem dX7_init_117 : decode cX7_init 117 = .ok (.aload_n 0, 1) := by decide +kernel
theorem dX7_init_118 : decode cX7_init 118 = .ok (.invokevirtual 58, 3) := by decide +kernel
theorem dX7_init_121 : decode cX7_init 121 = .ok (.return_, 1) := by decide +kernel
theorem dX7_in_0 : decode cX7_in 0 = .ok (.iload_n 0, 1) := by decide +kernel
theorem dX7_in_1 : decode cX7_in 1 = .ok (.iload_n 1, 1) := by decide +kernel
theorem dX7_in_2 : decode cX7_in 2 = .ok (.if_icmp .lt 12, 3) := by decide +kernel
theorem dX7_in_5 : decode cX7_in 5 = .ok (.iload_n 0, 1) := by decide +kernel
theorem dX7_in_6 : decode cX7_in 6 = .ok (.iload_n 2, 1) := by decide +kernel
theorem dX7_in_7 : decode cX7_in 7 = .ok (.if_icmp .gt 7, 3) := by decide +kernel
theorem dX7_in_10 : decode cX7_in 10 = .ok (.iconst 1, 1) := by decide +kernel
theorem dX7_in_11 : decode cX7_in 11 = .ok (.goto 4, 3) := by decide +kernel
theorem dX7_in_14 : decode cX7_in 14 = .ok (.iconst 0, 1) := by decide +kernel
theorem dX7_in_15 : decode cX7_in 15 = .ok (.ireturn, 1) := by decide +kernel
theorem dX7_isFoot_0 : decode cX7_isFoot 0 = .ok (.iload_n 1, 1) := by decide +kernel
theorem dX7_isFoot_1 : decode cX7_isFoot 1 = .ok (.iconst 0, 1) := by decide +kernel
theorem dX7_isFoot_2 : decode cX7_isFoot 2 = .ok (.aload_n 0, 1) := by decide +kernel
theorem dX7_isFoot_3 : decode cX7_isFoot 3 = .ok (.getfield 13, 3) := by decide +kernel
theorem dX7_isFoot_6 : decode cX7_isFoot 6 = .ok (.iconst 0, 1) := by decide +kernel
theorem dX7_isFoot_7 : decode cX7_isFoot 7 = .ok (.iaload, 1) := by decide +kernel
theorem dX7_isFoot_8 : decode cX7_isFoot 8 = .ok (.iconst 1, 1) := by decide +kernel
theorem dX7_isFoot_9 : decode cX7_isFoot 9 = .ok (.isub, 1) := by decide +kernel
theorem dX7_isFoot_10 : decode cX7_isFoot 10 = .ok (.invokestatic 61, 3) := by decide +kernel
theorem dX7_isFoot_13 : decode cX7_isFoot 13 = .ok (.ireturn, 1) := by decide +kernel
theorem dX7_isClimber_0 : decode cX7_isClimber 0 = .ok (.iload_n 1, 1) := by decide +kernel
theorem dX7_isClimber_1 : decode cX7_isClimber 1 = .ok (.iconst 0, 1) := by decide +kernel
theorem dX7_isClimber_2 : decode cX7_isClimber 2 = .ok (.aload_n 0, 1) := by decide +kernel
theorem dX7_isClimber_3 : decode cX7_isClimber 3 = .ok (.getfield 13, 3) := by decide +kernel
theorem dX7_isClimber_6 : decode cX7_isClimber 6 = .ok (.iconst 1, 1) := by decide +kernel
theorem dX7_isClimber_7 : decode cX7_isClimber 7 = .ok (.iaload, 1) := by decide +kernel
theorem dX7_isClimber_8 : decode cX7_isClimber 8 = .ok (.iconst 1, 1) := by decide +kernel
theorem dX7_isClimber_9 : decode cX7_isClimber 9 = .ok (.isub, 1) := by decide +kernel
theorem dX7_isClimber_10 : decode cX7_isClimber 10 = .ok (.invokestatic 61, 3) := by decide +kernel
theorem dX7_isClimber_13 : decode cX7_isClimber 13 = .ok (.ireturn, 1) := by decide +kernel
theorem dX7_feed_0 : decode cX7_feed 0 = .ok (.iload_n 1, 1) := by decide +kernel
theorem dX7_feed_1 : decode cX7_feed 1 = .ok (.iconst 1, 1) := by decide +kernel
theorem dX7_feed_2 : decode cX7_feed 2 = .ok (.bipush 8, 2) := by decide +kernel
theorem dX7_feed_4 : decode cX7_feed 4 = .ok (.invokestatic 61, 3) := by decide +kernel
theorem dX7_feed_7 : decode cX7_feed 7 = .ok (.ifCond .ne 6, 3) := by decide +kernel
theorem dX7_feed_10 : decode cX7_feed 10 = .ok (.ldc 65, 2) := by decide +kernel
theorem dX7_feed_12 : decode cX7_feed 12 = .ok (.ireturn, 1) := by decide +kernel
theorem dX7_feed_13 : decode cX7_feed 13 = .ok (.aload_n 0, 1) := by decide +kernel
theorem dX7_feed_14 : decode cX7_feed 14 = .ok (.getfield 66, 3) := by decide +kernel
theorem dX7_feed_17 : decode cX7_feed 17 = .ok (.iload_n 1, 1) := by decide +kernel
theorem dX7_feed_18 : decode cX7_feed 18 = .ok (.iadd, 1) := by decide +kernel
theorem dX7_feed_19 : decode cX7_feed 19 = .ok (.sipush 400, 3) := by decide +kernel
theorem dX7_feed_22 : decode cX7_feed 22 = .ok (.if_icmp .le 6, 3) := by decide +kernel
theorem dX7_feed_25 : decode cX7_feed 25 = .ok (.ldc 69, 2) := by decide +kernel
theorem dX7_feed_27 : decode cX7_feed 27 = .ok (.ireturn, 1) := by decide +kernel
theorem dX7_feed_28 : decode cX7_feed 28 = .ok (.iload_n 1, 1) := by decide +kernel
theorem dX7_feed_29 : decode cX7_feed 29 = .ok (.iconst 1, 1) := by decide +kernel
theorem dX7_feed_30 : decode cX7_feed 30 = .ok (.isub, 1) := by decide +kernel
theorem dX7_feed_31 : decode cX7_feed 31 = .ok (.istore 4, 2) := by decide +kernel
theorem dX7_feed_33 : decode cX7_feed 33 = .ok (.iload 4, 2) := by decide +kernel
theorem dX7_feed_35 : decode cX7_feed 35 = .ok (.ifCond .lt 40, 3) := by decide +kernel
theorem dX7_feed_38 : decode cX7_feed 38 = .ok (.aload_n 0, 1) := by decide +kernel
theorem dX7_feed_39 : decode cX7_feed 39 = .ok (.getfield 7, 3) := by decide +kernel
theorem dX7_feed_42 : decode cX7_feed 42 = .ok (.aload_n 0, 1) := by decide +kernel
theorem dX7_feed_43 : decode cX7_feed 43 = .ok (.getfield 66, 3) := by decide +kernel
theorem dX7_feed_46 : decode cX7_feed 46 = .ok (.lload_n 2, 1) := by decide +kernel
theorem dX7_feed_47 : decode cX7_feed 47 = .ok (.bipush 8, 2) := by decide +kernel
theorem dX7_feed_49 : decode cX7_feed 49 = .ok (.iload 4, 2) := by decide +kernel
theorem dX7_feed_51 : decode cX7_feed 51 = .ok (.imul, 1) := by decide +kernel
theorem dX7_feed_52 : decode cX7_feed 52 = .ok (.lshr, 1) := by decide +kernel
theorem dX7_feed_53 : decode cX7_feed 53 = .ok (.ldc2_w 70, 3) := by decide +kernel
theorem dX7_feed_56 : decode cX7_feed 56 = .ok (.land, 1) := by decide +kernel
theorem dX7_feed_57 : decode cX7_feed 57 = .ok (.l2i, 1) := by decide +kernel
theorem dX7_feed_58 : decode cX7_feed 58 = .ok (.iastore, 1) := by decide +kernel
theorem dX7_feed_59 : decode cX7_feed 59 = .ok (.aload_n 0, 1) := by decide +kernel
theorem dX7_feed_60 : decode cX7_feed 60 = .ok (.dup, 1) := by decide +kernel
theorem dX7_feed_61 : decode cX7_feed 61 = .ok (.getfield 66, 3) := by decide +kernel
theorem dX7_feed_64 : decode cX7_feed 64 = .ok (.iconst 1, 1) := by decide +kernel
theorem dX7_feed_65 : decode cX7_feed 65 = .ok (.iadd, 1) := by decide +kernel
theorem dX7_feed_66 : decode cX7_feed 66 = .ok (.putfield 66, 3) := by decide +kernel
theorem dX7_feed_69 : decode cX7_feed 69 = .ok (.iinc 4 (-1), 3) := by decide +kernel
theorem dX7_feed_72 : decode cX7_feed 72 = .ok (.goto (-39), 3) := by decide +kernel
theorem dX7_feed_75 : decode cX7_feed 75 = .ok (.aload_n 0, 1) := by decide +kernel
theorem dX7_feed_76 : decode cX7_feed 76 = .ok (.getfield 66, 3) := by decide +kernel
theorem dX7_feed_79 : decode cX7_feed 79 = .ok (.ireturn, 1) := by decide +kernel
theorem dX7_byteAt_0 : decode cX7_byteAt 0 = .ok (.iload_n 1, 1) := by decide +kernel
theorem dX7_byteAt_1 : decode cX7_byteAt 1 = .ok (.aload_n 0, 1) := by decide +kernel
theorem dX7_byteAt_2 : decode cX7_byteAt 2 = .ok (.getfield 66, 3) := by decide +kernel
theorem dX7_byteAt_5 : decode cX7_byteAt 5 = .ok (.if_icmp .ge 12, 3) := by decide +kernel
theorem dX7_byteAt_8 : decode cX7_byteAt 8 = .ok (.aload_n 0, 1) := by decide +kernel
theorem dX7_byteAt_9 : decode cX7_byteAt 9 = .ok (.getfield 7, 3) := by decide +kernel
theorem dX7_byteAt_12 : decode cX7_byteAt 12 = .ok (.iload_n 1, 1) := by decide +kernel
theorem dX7_byteAt_13 : decode cX7_byteAt 13 = .ok (.iaload, 1) := by decide +kernel
theorem dX7_byteAt_14 : decode cX7_byteAt 14 = .ok (.goto 4, 3) := by decide +kernel
theorem dX7_byteAt_17 : decode cX7_byteAt 17 = .ok (.iconst (-1), 1) := by decide +kernel
theorem dX7_byteAt_18 : decode cX7_byteAt 18 = .ok (.ireturn, 1) := by decide +kernel
theorem dX7_sortOf_0 : decode cX7_sortOf 0 = .ok (.iload_n 0, 1) := by decide +kernel
theorem dX7_sortOf_1 : decode cX7_sortOf 1 = .ok (.ifCond .ge 7, 3) := by decide +kernel
theorem dX7_sortOf_4 : decode cX7_sortOf 4 = .ok (.iconst 0, 1) := by decide +kernel
theorem dX7_sortOf_5 : decode cX7_sortOf 5 = .ok (.goto 44, 3) := by decide +kernel
theorem dX7_sortOf_8 : decode cX7_sortOf 8 = .ok (.iload_n 0, 1) := by decide +kernel
theorem dX7_sortOf_9 : decode cX7_sortOf 9 = .ok (.bipush 97, 2) := by decide +kernel
theorem dX7_sortOf_11 : decode cX7_sortOf 11 = .ok (.bipush 122, 2) := by decide +kernel
theorem dX7_sortOf_13 : decode cX7_sortOf 13 = .ok (.invokestatic 61, 3) := by decide +kernel
theorem dX7_sortOf_16 : decode cX7_sortOf 16 = .ok (.ifCond .eq 7, 3) := by decide +kernel
theorem dX7_sortOf_19 : decode cX7_sortOf 19 = .ok (.iconst 1, 1) := by decide +kernel
theorem dX7_sortOf_20 : decode cX7_sortOf 20 = .ok (.goto 29, 3) := by decide +kernel
theorem dX7_sortOf_23 : decode cX7_sortOf 23 = .ok (.iload_n 0, 1) := by decide +kernel
theorem dX7_sortOf_24 : decode cX7_sortOf 24 = .ok (.bipush 48, 2) := by decide +kernel
theorem dX7_sortOf_26 : decode cX7_sortOf 26 = .ok (.bipush 57, 2) := by decide +kernel
theorem dX7_sortOf_28 : decode cX7_sortOf 28 = .ok (.invokestatic 61, 3) := by decide +kernel
theorem dX7_sortOf_31 : decode cX7_sortOf 31 = .ok (.ifCond .eq 7, 3) := by decide +kernel
theorem dX7_sortOf_34 : decode cX7_sortOf 34 = .ok (.iconst 2, 1) := by decide +kernel
theorem dX7_sortOf_35 : decode cX7_sortOf 35 = .ok (.goto 14, 3) := by decide +kernel
theorem dX7_sortOf_38 : decode cX7_sortOf 38 = .ok (.iload_n 0, 1) := by decide +kernel
theorem dX7_sortOf_39 : decode cX7_sortOf 39 = .ok (.bipush 59, 2) := by decide +kernel
theorem dX7_sortOf_41 : decode cX7_sortOf 41 = .ok (.if_icmp .ne 7, 3) := by decide +kernel
theorem dX7_sortOf_44 : decode cX7_sortOf 44 = .ok (.iconst 3, 1) := by decide +kernel
theorem dX7_sortOf_45 : decode cX7_sortOf 45 = .ok (.goto 4, 3) := by decide +kernel
theorem dX7_sortOf_48 : decode cX7_sortOf 48 = .ok (.iconst 4, 1) := by decide +kernel
theorem dX7_sortOf_49 : decode cX7_sortOf 49 = .ok (.ireturn, 1) := by decide +kernel
theorem dX7_token_0 : decode cX7_token 0 = .ok (.aload_n 0, 1) := by decide +kernel
theorem dX7_token_1 : decode cX7_token 1 = .ok (.aload_n 0, 1) := by decide +kernel
theorem dX7_token_2 : decode cX7_token 2 = .ok (.getfield 72, 3) := by decide +kernel
theorem dX7_token_5 : decode cX7_token 5 = .ok (.invokevirtual 75, 3) := by decide +kernel
theorem dX7_token_8 : decode cX7_token 8 = .ok (.bipush 32, 2) := by decide +kernel
theorem dX7_token_10 : decode cX7_token 10 = .ok (.if_icmp .ne 16, 3) := by decide +kernel
theorem dX7_token_13 : decode cX7_token 13 = .ok (.aload_n 0, 1) := by decide +kernel
theorem dX7_token_14 : decode cX7_token 14 = .ok (.dup, 1) := by decide +kernel
theorem dX7_token_15 : decode cX7_token 15 = .ok (.getfield 72, 3) := by decide +kernel
theorem dX7_token_18 : decode cX7_token 18 = .ok (.iconst 1, 1) := by decide +kernel
theorem dX7_token_19 : decode cX7_token 19 = .ok (.iadd, 1) := by decide +kernel
theorem dX7_token_20 : decode cX7_token 20 = .ok (.putfield 72, 3) := by decide +kernel
theorem dX7_token_23 : decode cX7_token 23 = .ok (.goto (-23), 3) := by decide +kernel
theorem dX7_token_26 : decode cX7_token 26 = .ok (.aload_n 0, 1) := by decide +kernel
theorem dX7_token_27 : decode cX7_token 27 = .ok (.aload_n 0, 1) := by decide +kernel
theorem dX7_token_28 : decode cX7_token 28 = .ok (.getfield 72, 3) := by decide +kernel
theorem dX7_token_31 : decode cX7_token 31 = .ok (.putfield 79, 3) := by decide +kernel
theorem dX7_token_34 : decode cX7_token 34 = .ok (.aload_n 0, 1) := by decide +kernel
theorem dX7_token_35 : decode cX7_token 35 = .ok (.aload_n 0, 1) := by decide +kernel
theorem dX7_token_36 : decode cX7_token 36 = .ok (.aload_n 0, 1) := by decide +kernel
theorem dX7_token_37 : decode cX7_token 37 = .ok (.getfield 72, 3) := by decide +kernel
theorem dX7_token_40 : decode cX7_token 40 = .ok (.invokevirtual 75, 3) := by decide +kernel
theorem dX7_token_43 : decode cX7_token 43 = .ok (.invokestatic 82, 3) := by decide +kernel
theorem dX7_token_46 : decode cX7_token 46 = .ok (.putfield 85, 3) := by decide +kernel
theorem dX7_token_49 : decode cX7_token 49 = .ok (.aload_n 0, 1) := by decide +kernel
theorem dX7_token_50 : decode cX7_token 50 = .ok (.iconst 0, 1) := by decide +kernel
theorem dX7_token_51 : decode cX7_token 51 = .ok (.putfield 88, 3) := by decide +kernel
theorem dX7_token_54 : decode cX7_token 54 = .ok (.aload_n 0, 1) := by decide +kernel
theorem dX7_token_55 : decode cX7_token 55 = .ok (.getfield 88, 3) := by decide +kernel
theorem dX7_token_58 : decode cX7_token 58 = .ok (.ifCond .ne 10, 3) := by decide +kernel
theorem dX7_token_61 : decode cX7_token 61 = .ok (.aload_n 0, 1) := by decide +kernel
theorem dX7_token_62 : decode cX7_token 62 = .ok (.getfield 85, 3) := by decide +kernel
theorem dX7_token_65 : decode cX7_token 65 = .ok (.ifCond .ne 37, 3) := by decide +kernel
theorem dX7_token_68 : decode cX7_token 68 = .ok (.aload_n 0, 1) := by decide +kernel
theorem dX7_token_69 : decode cX7_token 69 = .ok (.getfield 85, 3) := by decide +kernel
theorem dX7_token_72 : decode cX7_token 72 = .ok (.iconst 1, 1) := by decide +kernel
theorem dX7_token_73 : decode cX7_token 73 = .ok (.if_icmp .eq 11, 3) := by decide +kernel
theorem dX7_token_76 : decode cX7_token 76 = .ok (.aload_n 0, 1) := by decide +kernel
theorem dX7_token_77 : decode cX7_token 77 = .ok (.getfield 85, 3) := by decide +kernel
theorem dX7_token_80 : decode cX7_token 80 = .ok (.iconst 2, 1) := by decide +kernel
theorem dX7_token_81 : decode cX7_token 81 = .ok (.if_icmp .ne 44, 3) := by decide +kernel
theorem dX7_token_84 : decode cX7_token 84 = .ok (.aload_n 0, 1) := by decide +kernel
theorem dX7_token_85 : decode cX7_token 85 = .ok (.aload_n 0, 1) := by decide +kernel
theorem dX7_token_86 : decode cX7_token 86 = .ok (.getfield 72, 3) := by decide +kernel
theorem dX7_token_89 : decode cX7_token 89 = .ok (.invokevirtual 75, 3) := by decide +kernel
theorem dX7_token_92 : decode cX7_token 92 = .ok (.invokestatic 82, 3) := by decide +kernel
theorem dX7_token_95 : decode cX7_token 95 = .ok (.aload_n 0, 1) := by decide +kernel
theorem dX7_token_96 : decode cX7_token 96 = .ok (.getfield 85, 3) := by decide +kernel
theorem dX7_token_99 : decode cX7_token 99 = .ok (.if_icmp .ne 26, 3) := by decide +kernel
theorem dX7_token_102 : decode cX7_token 102 = .ok (.aload_n 0, 1) := by decide +kernel
theorem dX7_token_103 : decode cX7_token 103 = .ok (.dup, 1) := by decide +kernel
theorem dX7_token_104 : decode cX7_token 104 = .ok (.getfield 72, 3) := by decide +kernel
theorem dX7_token_107 : decode cX7_token 107 = .ok (.iconst 1, 1) := by decide +kernel
theorem dX7_token_108 : decode cX7_token 108 = .ok (.iadd, 1) := by decide +kernel
theorem dX7_token_109 : decode cX7_token 109 = .ok (.putfield 72, 3) := by decide +kernel
theorem dX7_token_112 : decode cX7_token 112 = .ok (.aload_n 0, 1) := by decide +kernel
theorem dX7_token_113 : decode cX7_token 113 = .ok (.dup, 1) := by decide +kernel
theorem dX7_token_114 : decode cX7_token 114 = .ok (.getfield 88, 3) := by decide +kernel
theorem dX7_token_117 : decode cX7_token 117 = .ok (.iconst 1, 1) := by decide +kernel
theorem dX7_token_118 : decode cX7_token 118 = .ok (.iadd, 1) := by decide +kernel
theorem dX7_token_119 : decode cX7_token 119 = .ok (.putfield 88, 3) := by decide +kernel
theorem dX7_token_122 : decode cX7_token 122 = .ok (.goto (-68), 3) := by decide +kernel
theorem dX7_token_125 : decode cX7_token 125 = .ok (.return_, 1) := by decide +kernel
theorem dX7_word_0 : decode cX7_word 0 = .ok (.lconst 0, 1) := by decide +kernel
theorem dX7_word_1 : decode cX7_word 1 = .ok (.lstore_n 1, 1) := by decide +kernel
theorem dX7_word_2 : decode cX7_word 2 = .ok (.iconst 0, 1) := by decide +kernel
theorem dX7_word_3 : decode cX7_word 3 = .ok (.istore_n 3, 1) := by decide +kernel
theorem dX7_word_4 : decode cX7_word 4 = .ok (.iload_n 3, 1) := by decide +kernel
theorem dX7_word_5 : decode cX7_word 5 = .ok (.aload_n 0, 1) := by decide +kernel
theorem dX7_word_6 : decode cX7_word 6 = .ok (.getfield 88, 3) := by decide +kernel
theorem dX7_word_9 : decode cX7_word 9 = .ok (.if_icmp .ge 44, 3) := by decide +kernel
theorem dX7_word_12 : decode cX7_word 12 = .ok (.aload_n 0, 1) := by decide +kernel
theorem dX7_word_13 : decode cX7_word 13 = .ok (.getfield 88, 3) := by decide +kernel
theorem dX7_word_16 : decode cX7_word 16 = .ok (.bipush 8, 2) := by decide +kernel
theorem dX7_word_18 : decode cX7_word 18 = .ok (.if_icmp .ge 35, 3) := by decide +kernel
theorem dX7_word_21 : decode cX7_word 21 = .ok (.aload_n 0, 1) := by decide +kernel
theorem dX7_word_22 : decode cX7_word 22 = .ok (.getfield 85, 3) := by decide +kernel
theorem dX7_word_25 : decode cX7_word 25 = .ok (.iconst 1, 1) := by decide +kernel
theorem dX7_word_26 : decode cX7_word 26 = .ok (.if_icmp .ne 27, 3) := by decide +kernel
theorem dX7_word_29 : decode cX7_word 29 = .ok (.ldc2_w 91, 3) := by decide +kernel
theorem dX7_word_32 : decode cX7_word 32 = .ok (.lload_n 1, 1) := by decide +kernel
theorem dX7_word_33 : decode cX7_word 33 = .ok (.lmul, 1) := by decide +kernel
theorem dX7_word_34 : decode cX7_word 34 = .ok (.aload_n 0, 1) := by decide +kernel
theorem dX7_word_35 : decode cX7_word 35 = .ok (.aload_n 0, 1) := by decide +kernel
theorem dX7_word_36 : decode cX7_word 36 = .ok (.getfield 79, 3) := by decide +kernel
theorem dX7_word_39 : decode cX7_word 39 = .ok (.iload_n 3, 1) := by decide +kernel
theorem dX7_word_40 : decode cX7_word 40 = .ok (.iadd, 1) := by decide +kernel
theorem dX7_word_41 : decode cX7_word 41 = .ok (.invokevirtual 75, 3) := by decide +kernel
theorem dX7_word_44 : decode cX7_word 44 = .ok (.i2l, 1) := by decide +kernel
theorem dX7_word_45 : decode cX7_word 45 = .ok (.ladd, 1) := by decide +kernel
theorem dX7_word_46 : decode cX7_word 46 = .ok (.lstore_n 1, 1) := by decide +kernel
theorem dX7_word_47 : decode cX7_word 47 = .ok (.iinc 3 1, 3) := by decide +kernel
theorem dX7_word_50 : decode cX7_word 50 = .ok (.goto (-46), 3) := by decide +kernel
theorem dX7_word_53 : decode cX7_word 53 = .ok (.lload_n 1, 1) := by decide +kernel
theorem dX7_word_54 : decode cX7_word 54 = .ok (.lreturn, 1) := by decide +kernel
theorem dX7_wrong_0 : decode cX7_wrong 0 = .ok (.aload_n 0, 1) := by decide +kernel
theorem dX7_wrong_1 : decode cX7_wrong 1 = .ok (.iload_n 1, 1) := by decide +kernel
theorem dX7_wrong_2 : decode cX7_wrong 2 = .ok (.putfield 93, 3) := by decide +kernel
theorem dX7_wrong_5 : decode cX7_wrong 5 = .ok (.iconst 0, 1) := by decide +kernel
theorem dX7_wrong_6 : decode cX7_wrong 6 = .ok (.ireturn, 1) := by decide +kernel
theorem dX7_number_0 : decode cX7_number 0 = .ok (.aload_n 0, 1) := by decide +kernel
theorem dX7_number_1 : decode cX7_number 1 = .ok (.invokevirtual 96, 3) := by decide +kernel
theorem dX7_number_4 : decode cX7_number 4 = .ok (.aload_n 0, 1) := by decide +kernel
theorem dX7_number_5 : decode cX7_number 5 = .ok (.getfield 85, 3) := by decide +kernel
theorem dX7_number_8 : decode cX7_number 8 = .ok (.iconst 2, 1) := by decide +kernel
theorem dX7_number_9 : decode cX7_number 9 = .ok (.if_icmp .eq 9, 3) := by decide +kernel
theorem dX7_number_12 : decode cX7_number 12 = .ok (.aload_n 0, 1) := by decide +kernel
theorem dX7_number_13 : decode cX7_number 13 = .ok (.iconst 1, 1) := by decide +kernel
theorem dX7_number_14 : decode cX7_number 14 = .ok (.invokevirtual 99, 3) := by decide +kernel
theorem dX7_number_17 : decode cX7_number 17 = .ok (.ireturn, 1) := by decide +kernel
theorem dX7_number_18 : decode cX7_number 18 = .ok (.iconst 0, 1) := by decide +kernel
theorem dX7_number_19 : decode cX7_number 19 = .ok (.istore 4, 2) := by decide +kernel
theorem dX7_number_21 : decode cX7_number 21 = .ok (.iconst 0, 1) := by decide +kernel
theorem dX7_number_22 : decode cX7_number 22 = .ok (.istore 5, 2) := by decide +kernel
theorem dX7_number_24 : decode cX7_number 24 = .ok (.iload 5, 2) := by decide +kernel
theorem dX7_number_26 : decode cX7_number 26 = .ok (.aload_n 0, 1) := by decide +kernel
theorem dX7_number_27 : decode cX7_number 27 = .ok (.getfield 88, 3) := by decide +kernel
theorem dX7_number_30 : decode cX7_number 30 = .ok (.if_icmp .ge 39, 3) := by decide +kernel
theorem dX7_number_33 : decode cX7_number 33 = .ok (.aload_n 0, 1) := by decide +kernel
theorem dX7_number_34 : decode cX7_number 34 = .ok (.getfield 88, 3) := by decide +kernel
theorem dX7_number_37 : decode cX7_number 37 = .ok (.iconst 4, 1) := by decide +kernel
theorem dX7_number_38 : decode cX7_number 38 = .ok (.if_icmp .ge 31, 3) := by decide +kernel
theorem dX7_number_41 : decode cX7_number 41 = .ok (.bipush 10, 2) := by decide +kernel
theorem dX7_number_43 : decode cX7_number 43 = .ok (.iload 4, 2) := by decide +kernel
theorem dX7_number_45 : decode cX7_number 45 = .ok (.imul, 1) := by decide +kernel
theorem dX7_number_46 : decode cX7_number 46 = .ok (.aload_n 0, 1) := by decide +kernel
theorem dX7_number_47 : decode cX7_number 47 = .ok (.aload_n 0, 1) := by decide +kernel
theorem dX7_number_48 : decode cX7_number 48 = .ok (.getfield 79, 3) := by decide +kernel
theorem dX7_number_51 : decode cX7_number 51 = .ok (.iload 5, 2) := by decide +kernel
theorem dX7_number_53 : decode cX7_number 53 = .ok (.iadd, 1) := by decide +kernel
theorem dX7_number_54 : decode cX7_number 54 = .ok (.invokevirtual 75, 3) := by decide +kernel
theorem dX7_number_57 : decode cX7_number 57 = .ok (.iadd, 1) := by decide +kernel
theorem dX7_number_58 : decode cX7_number 58 = .ok (.bipush 48, 2) := by decide +kernel
theorem dX7_number_60 : decode cX7_number 60 = .ok (.isub, 1) := by decide +kernel
theorem dX7_number_61 : decode cX7_number 61 = .ok (.istore 4, 2) := by decide +kernel
theorem dX7_number_63 : decode cX7_number 63 = .ok (.iinc 5 1, 3) := by decide +kernel
theorem dX7_number_66 : decode cX7_number 66 = .ok (.goto (-42), 3) := by decide +kernel
theorem dX7_number_69 : decode cX7_number 69 = .ok (.aload_n 0, 1) := by decide +kernel
theorem dX7_number_70 : decode cX7_number 70 = .ok (.getfield 88, 3) := by decide +kernel
theorem dX7_number_73 : decode cX7_number 73 = .ok (.iconst 3, 1) := by decide +kernel
theorem dX7_number_74 : decode cX7_number 74 = .ok (.if_icmp .gt 13, 3) := by decide +kernel
theorem dX7_number_77 : decode cX7_number 77 = .ok (.iload 4, 2) := by decide +kernel
theorem dX7_number_79 : decode cX7_number 79 = .ok (.iload_n 2, 1) := by decide +kernel
theorem dX7_number_80 : decode cX7_number 80 = .ok (.iload_n 3, 1) := by decide +kernel
theorem dX7_number_81 : decode cX7_number 81 = .ok (.invokestatic 61, 3) := by decide +kernel
theorem dX7_number_84 : decode cX7_number 84 = .ok (.ifCond .ne 9, 3) := by decide +kernel
theorem dX7_number_87 : decode cX7_number 87 = .ok (.aload_n 0, 1) := by decide +kernel
theorem dX7_number_88 : decode cX7_number 88 = .ok (.iconst 2, 1) := by decide +kernel
theorem dX7_number_89 : decode cX7_number 89 = .ok (.invokevirtual 99, 3) := by decide +kernel
theorem dX7_number_92 : decode cX7_number 92 = .ok (.ireturn, 1) := by decide +kernel
theorem dX7_number_93 : decode cX7_number 93 = .ok (.aload_n 0, 1) := by decide +kernel
theorem dX7_number_94 : decode cX7_number 94 = .ok (.getfield 16, 3) := by decide +kernel
theorem dX7_number_97 : decode cX7_number 97 = .ok (.iload_n 1, 1) := by decide +kernel
theorem dX7_number_98 : decode cX7_number 98 = .ok (.iload 4, 2) := by decide +kernel
theorem dX7_number_100 : decode cX7_number 100 = .ok (.iastore, 1) := by decide +kernel
theorem dX7_number_101 : decode cX7_number 101 = .ok (.iconst 1, 1) := by decide +kernel
theorem dX7_number_102 : decode cX7_number 102 = .ok (.ireturn, 1) := by decide +kernel
theorem dX7_stops_0 : decode cX7_stops 0 = .ok (.aload_n 0, 1) := by decide +kernel
theorem dX7_stops_1 : decode cX7_stops 1 = .ok (.invokevirtual 96, 3) := by decide +kernel
theorem dX7_stops_4 : decode cX7_stops 4 = .ok (.aload_n 0, 1) := by decide +kernel
theorem dX7_stops_5 : decode cX7_stops 5 = .ok (.getfield 85, 3) := by decide +kernel
theorem dX7_stops_8 : decode cX7_stops 8 = .ok (.iconst 3, 1) := by decide +kernel
theorem dX7_stops_9 : decode cX7_stops 9 = .ok (.if_icmp .eq 11, 3) := by decide +kernel
theorem dX7_stops_12 : decode cX7_stops 12 = .ok (.aload_n 0, 1) := by decide +kernel
theorem dX7_stops_13 : decode cX7_stops 13 = .ok (.iconst 1, 1) := by decide +kernel
theorem dX7_stops_14 : decode cX7_stops 14 = .ok (.invokevirtual 99, 3) := by decide +kernel
theorem dX7_stops_17 : decode cX7_stops 17 = .ok (.ifCond .eq 7, 3) := by decide +kernel
theorem dX7_stops_20 : decode cX7_stops 20 = .ok (.iconst 1, 1) := by decide +kernel
theorem dX7_stops_21 : decode cX7_stops 21 = .ok (.goto 4, 3) := by decide +kernel
theorem dX7_stops_24 : decode cX7_stops 24 = .ok (.iconst 0, 1) := by decide +kernel
theorem dX7_stops_25 : decode cX7_stops 25 = .ok (.ireturn, 1) := by decide +kernel
theorem dX7_readsPole_0 : decode cX7_readsPole 0 = .ok (.aload_n 0, 1) := by decide +kernel
theorem dX7_readsPole_1 : decode cX7_readsPole 1 = .ok (.getfield 16, 3) := by decide +kernel
theorem dX7_readsPole_4 : decode cX7_readsPole 4 = .ok (.iconst 0, 1) := by decide +kernel
theorem dX7_readsPole_5 : decode cX7_readsPole 5 = .ok (.iaload, 1) := by decide +kernel
theorem dX7_readsPole_6 : decode cX7_readsPole 6 = .ok (.ifCond .le 9, 3) := by decide +kernel
theorem dX7_readsPole_9 : decode cX7_readsPole 9 = .ok (.aload_n 0, 1) := by decide +kernel
theorem dX7_readsPole_10 : decode cX7_readsPole 10 = .ok (.iconst 3, 1) := by decide +kernel
theorem dX7_readsPole_11 : decode cX7_readsPole 11 = .ok (.invokevirtual 99, 3) := by decide +kernel
theorem dX7_readsPole_14 : decode cX7_readsPole 14 = .ok (.ireturn, 1) := by decide +kernel
theorem dX7_readsPole_15 : decode cX7_readsPole 15 = .ok (.aload_n 0, 1) := by decide +kernel
theorem dX7_readsPole_16 : decode cX7_readsPole 16 = .ok (.iconst 0, 1) := by decide +kernel
theorem dX7_readsPole_17 : decode cX7_readsPole 17 = .ok (.iconst 1, 1) := by decide +kernel
theorem dX7_readsPole_18 : decode cX7_readsPole 18 = .ok (.bipush 30, 2) := by decide +kernel
theorem dX7_readsPole_20 : decode cX7_readsPole 20 = .ok (.invokevirtual 103, 3) := by decide +kernel
theorem dX7_readsPole_23 : decode cX7_readsPole 23 = .ok (.ifCond .eq 22, 3) := by decide +kernel
theorem dX7_readsPole_26 : decode cX7_readsPole 26 = .ok (.aload_n 0, 1) := by decide +kernel
theorem dX7_readsPole_27 : decode cX7_readsPole 27 = .ok (.bipush 24, 2) := by decide +kernel
theorem dX7_readsPole_29 : decode cX7_readsPole 29 = .ok (.iconst 0, 1) := by decide +kernel
theorem dX7_readsPole_30 : decode cX7_readsPole 30 = .ok (.bipush 99, 2) := by decide +kernel
theorem dX7_readsPole_32 : decode cX7_readsPole 32 = .ok (.invokevirtual 103, 3) := by decide +kernel
theorem dX7_readsPole_35 : decode cX7_readsPole 35 = .ok (.ifCond .eq 10, 3) := by decide +kernel
theorem dX7_readsPole_38 : decode cX7_readsPole 38 = .ok (.aload_n 0, 1) := by decide +kernel
theorem dX7_readsPole_39 : decode cX7_readsPole 39 = .ok (.invokevirtual 106, 3) := by decide +kernel
theorem dX7_readsPole_42 : decode cX7_readsPole 42 = .ok (.ifCond .ne 5, 3) := by decide +kernel
theorem dX7_readsPole_45 : decode cX7_readsPole 45 = .ok (.iconst 0, 1) := by decide +kernel
theorem dX7_readsPole_46 : decode cX7_readsPole 46 = .ok (.ireturn, 1) := by decide +kernel
theorem dX7_readsPole_47 : decode cX7_readsPole 47 = .ok (.iconst 1, 1) := by decide +kernel
theorem dX7_readsPole_48 : decode cX7_readsPole 48 = .ok (.istore_n 1, 1) := by decide +kernel
theorem dX7_readsPole_49 : decode cX7_readsPole 49 = .ok (.iload_n 1, 1) := by decide +kernel
theorem dX7_readsPole_50 : decode cX7_readsPole 50 = .ok (.bipush 30, 2) := by decide +kernel
theorem dX7_readsPole_52 : decode cX7_readsPole 52 = .ok (.if_icmp .ge 39, 3) := by decide +kernel
theorem dX7_readsPole_55 : decode cX7_readsPole 55 = .ok (.aload_n 0, 1) := by decide +kernel
theorem dX7_readsPole_56 : decode cX7_readsPole 56 = .ok (.getfield 16, 3) := by decide +kernel
theorem dX7_readsPole_59 : decode cX7_readsPole 59 = .ok (.bipush 24, 2) := by decide +kernel
theorem dX7_readsPole_61 : decode cX7_readsPole 61 = .ok (.iload_n 1, 1) := by decide +kernel
theorem dX7_readsPole_62 : decode cX7_readsPole 62 = .ok (.iadd, 1) := by decide +kernel
theorem dX7_readsPole_63 : decode cX7_readsPole 63 = .ok (.iload_n 1, 1) := by decide +kernel
theorem dX7_readsPole_64 : decode cX7_readsPole 64 = .ok (.aload_n 0, 1) := by decide +kernel
theorem dX7_readsPole_65 : decode cX7_readsPole 65 = .ok (.getfield 16, 3) := by decide +kernel
theorem dX7_readsPole_68 : decode cX7_readsPole 68 = .ok (.iconst 0, 1) := by decide +kernel
theorem dX7_readsPole_69 : decode cX7_readsPole 69 = .ok (.iaload, 1) := by decide +kernel
theorem dX7_readsPole_70 : decode cX7_readsPole 70 = .ok (.if_icmp .ge 13, 3) := by decide +kernel
theorem dX7_readsPole_73 : decode cX7_readsPole 73 = .ok (.aload_n 0, 1) := by decide +kernel
theorem dX7_readsPole_74 : decode cX7_readsPole 74 = .ok (.getfield 16, 3) := by decide +kernel
theorem dX7_readsPole_77 : decode cX7_readsPole 77 = .ok (.bipush 24, 2) := by decide +kernel
theorem dX7_readsPole_79 : decode cX7_readsPole 79 = .ok (.iaload, 1) := by decide +kernel
theorem dX7_readsPole_80 : decode cX7_readsPole 80 = .ok (.goto 4, 3) := by decide +kernel
theorem dX7_readsPole_83 : decode cX7_readsPole 83 = .ok (.iconst 0, 1) := by decide +kernel
theorem dX7_readsPole_84 : decode cX7_readsPole 84 = .ok (.iastore, 1) := by decide +kernel
theorem dX7_readsPole_85 : decode cX7_readsPole 85 = .ok (.iinc 1 1, 3) := by decide +kernel
theorem dX7_readsPole_88 : decode cX7_readsPole 88 = .ok (.goto (-39), 3) := by decide +kernel
theorem dX7_readsPole_91 : decode cX7_readsPole 91 = .ok (.iconst 1, 1) := by decide +kernel
theorem dX7_readsPole_92 : decode cX7_readsPole 92 = .ok (.ireturn, 1) := by decide +kernel
theorem dX7_readsFoot_0 : decode cX7_readsFoot 0 = .ok (.aload_n 0, 1) := by decide +kernel
theorem dX7_readsFoot_1 : decode cX7_readsFoot 1 = .ok (.getfield 16, 3) := by decide +kernel
theorem dX7_readsFoot_4 : decode cX7_readsFoot 4 = .ok (.bipush 55, 2) := by decide +kernel
theorem dX7_readsFoot_6 : decode cX7_readsFoot 6 = .ok (.iaload, 1) := by decide +kernel
theorem dX7_readsFoot_7 : decode cX7_readsFoot 7 = .ok (.bipush 20, 2) := by decide +kernel
theorem dX7_readsFoot_9 : decode cX7_readsFoot 9 = .ok (.if_icmp .ne 9, 3) := by decide +kernel
theorem dX7_readsFoot_12 : decode cX7_readsFoot 12 = .ok (.aload_n 0, 1) := by decide +kernel
theorem dX7_readsFoot_13 : decode cX7_readsFoot 13 = .ok (.iconst 3, 1) := by decide +kernel
theorem dX7_readsFoot_14 : decode cX7_readsFoot 14 = .ok (.invokevirtual 99, 3) := by decide +kernel
theorem dX7_readsFoot_17 : decode cX7_readsFoot 17 = .ok (.ireturn, 1) := by decide +kernel
theorem dX7_readsFoot_18 : decode cX7_readsFoot 18 = .ok (.aload_n 0, 1) := by decide +kernel
theorem dX7_readsFoot_19 : decode cX7_readsFoot 19 = .ok (.getfield 16, 3) := by decide +kernel
theorem dX7_readsFoot_22 : decode cX7_readsFoot 22 = .ok (.iconst 2, 1) := by decide +kernel
theorem dX7_readsFoot_23 : decode cX7_readsFoot 23 = .ok (.iaload, 1) := by decide +kernel
theorem dX7_readsFoot_24 : decode cX7_readsFoot 24 = .ok (.istore_n 1, 1) := by decide +kernel
theorem dX7_readsFoot_25 : decode cX7_readsFoot 25 = .ok (.aload_n 0, 1) := by decide +kernel
theorem dX7_readsFoot_26 : decode cX7_readsFoot 26 = .ok (.iconst 2, 1) := by decide +kernel
theorem dX7_readsFoot_27 : decode cX7_readsFoot 27 = .ok (.iconst 0, 1) := by decide +kernel
theorem dX7_readsFoot_28 : decode cX7_readsFoot 28 = .ok (.aload_n 0, 1) := by decide +kernel
theorem dX7_readsFoot_29 : decode cX7_readsFoot 29 = .ok (.getfield 16, 3) := by decide +kernel
theorem dX7_readsFoot_32 : decode cX7_readsFoot 32 = .ok (.iconst 0, 1) := by decide +kernel
theorem dX7_readsFoot_33 : decode cX7_readsFoot 33 = .ok (.iaload, 1) := by decide +kernel
theorem dX7_readsFoot_34 : decode cX7_readsFoot 34 = .ok (.iconst 1, 1) := by decide +kernel
theorem dX7_readsFoot_35 : decode cX7_readsFoot 35 = .ok (.isub, 1) := by decide +kernel
theorem dX7_readsFoot_36 : decode cX7_readsFoot 36 = .ok (.invokevirtual 103, 3) := by decide +kernel
theorem dX7_readsFoot_39 : decode cX7_readsFoot 39 = .ok (.istore_n 2, 1) := by decide +kernel
theorem dX7_readsFoot_40 : decode cX7_readsFoot 40 = .ok (.aload_n 0, 1) := by decide +kernel
theorem dX7_readsFoot_41 : decode cX7_readsFoot 41 = .ok (.getfield 16, 3) := by decide +kernel
theorem dX7_readsFoot_44 : decode cX7_readsFoot 44 = .ok (.iconst 2, 1) := by decide +kernel
theorem dX7_readsFoot_45 : decode cX7_readsFoot 45 = .ok (.iaload, 1) := by decide +kernel
theorem dX7_readsFoot_46 : decode cX7_readsFoot 46 = .ok (.istore_n 3, 1) := by decide +kernel
theorem dX7_readsFoot_47 : decode cX7_readsFoot 47 = .ok (.aload_n 0, 1) := by decide +kernel
theorem dX7_readsFoot_48 : decode cX7_readsFoot 48 = .ok (.getfield 16, 3) := by decide +kernel
theorem dX7_readsFoot_51 : decode cX7_readsFoot 51 = .ok (.iconst 2, 1) := by decide +kernel
theorem dX7_readsFoot_52 : decode cX7_readsFoot 52 = .ok (.iload_n 1, 1) := by decide +kernel
theorem dX7_readsFoot_53 : decode cX7_readsFoot 53 = .ok (.iastore, 1) := by decide +kernel
theorem dX7_readsFoot_54 : decode cX7_readsFoot 54 = .ok (.iload_n 2, 1) := by decide +kernel
theorem dX7_readsFoot_55 : decode cX7_readsFoot 55 = .ok (.ifCond .ne 5, 3) := by decide +kernel
theorem dX7_readsFoot_58 : decode cX7_readsFoot 58 = .ok (.iconst 0, 1) := by decide +kernel
theorem dX7_readsFoot_59 : decode cX7_readsFoot 59 = .ok (.ireturn, 1) := by decide +kernel
theorem dX7_readsFoot_60 : decode cX7_readsFoot 60 = .ok (.aload_n 0, 1) := by decide +kernel
theorem dX7_readsFoot_61 : decode cX7_readsFoot 61 = .ok (.getfield 16, 3) := by decide +kernel
theorem dX7_readsFoot_64 : decode cX7_readsFoot 64 = .ok (.bipush 54, 2) := by decide +kernel
theorem dX7_readsFoot_66 : decode cX7_readsFoot 66 = .ok (.iaload, 1) := by decide +kernel
theorem dX7_readsFoot_67 : decode cX7_readsFoot 67 = .ok (.iload_n 3, 1) := by decide +kernel
theorem dX7_readsFoot_68 : decode cX7_readsFoot 68 = .ok (.ishr, 1) := by decide +kernel
theorem dX7_readsFoot_69 : decode cX7_readsFoot 69 = .ok (.iconst 1, 1) := by decide +kernel
theorem dX7_readsFoot_70 : decode cX7_readsFoot 70 = .ok (.iand, 1) := by decide +kernel
theorem dX7_readsFoot_71 : decode cX7_readsFoot 71 = .ok (.iconst 1, 1) := by decide +kernel
theorem dX7_readsFoot_72 : decode cX7_readsFoot 72 = .ok (.if_icmp .ne 9, 3) := by decide +kernel
theorem dX7_readsFoot_75 : decode cX7_readsFoot 75 = .ok (.aload_n 0, 1) := by decide +kernel
theorem dX7_readsFoot_76 : decode cX7_readsFoot 76 = .ok (.iconst 4, 1) := by decide +kernel
theorem dX7_readsFoot_77 : decode cX7_readsFoot 77 = .ok (.invokevirtual 99, 3) := by decide +kernel
theorem dX7_readsFoot_80 : decode cX7_readsFoot 80 = .ok (.ireturn, 1) := by decide +kernel
theorem dX7_readsFoot_81 : decode cX7_readsFoot 81 = .ok (.aload_n 0, 1) := by decide +kernel
theorem dX7_readsFoot_82 : decode cX7_readsFoot 82 = .ok (.getfield 16, 3) := by decide +kernel
theorem dX7_readsFoot_85 : decode cX7_readsFoot 85 = .ok (.bipush 54, 2) := by decide +kernel
theorem dX7_readsFoot_87 : decode cX7_readsFoot 87 = .ok (.dup2, 1) := by decide +kernel
theorem dX7_readsFoot_88 : decode cX7_readsFoot 88 = .ok (.iaload, 1) := by decide +kernel
theorem dX7_readsFoot_89 : decode cX7_readsFoot 89 = .ok (.iconst 1, 1) := by decide +kernel
theorem dX7_readsFoot_90 : decode cX7_readsFoot 90 = .ok (.iload_n 3, 1) := by decide +kernel
theorem dX7_readsFoot_91 : decode cX7_readsFoot 91 = .ok (.ishl, 1) := by decide +kernel
theorem dX7_readsFoot_92 : decode cX7_readsFoot 92 = .ok (.ior, 1) := by decide +kernel
theorem dX7_readsFoot_93 : decode cX7_readsFoot 93 = .ok (.iastore, 1) := by decide +kernel
theorem dX7_readsFoot_94 : decode cX7_readsFoot 94 = .ok (.aload_n 0, 1) := by decide +kernel
theorem dX7_readsFoot_95 : decode cX7_readsFoot 95 = .ok (.getfield 16, 3) := by decide +kernel
theorem dX7_readsFoot_98 : decode cX7_readsFoot 98 = .ok (.bipush 55, 2) := by decide +kernel
theorem dX7_readsFoot_100 : decode cX7_readsFoot 100 = .ok (.dup2, 1) := by decide +kernel
theorem dX7_readsFoot_101 : decode cX7_readsFoot 101 = .ok (.iaload, 1) := by decide +kernel
theorem dX7_readsFoot_102 : decode cX7_readsFoot 102 = .ok (.iconst 1, 1) := by decide +kernel
theorem dX7_readsFoot_103 : decode cX7_readsFoot 103 = .ok (.iadd, 1) := by decide +kernel
theorem dX7_readsFoot_104 : decode cX7_readsFoot 104 = .ok (.iastore, 1) := by decide +kernel
theorem dX7_readsFoot_105 : decode cX7_readsFoot 105 = .ok (.aload_n 0, 1) := by decide +kernel
theorem dX7_readsFoot_106 : decode cX7_readsFoot 106 = .ok (.bipush 24, 2) := by decide +kernel
theorem dX7_readsFoot_108 : decode cX7_readsFoot 108 = .ok (.iload_n 3, 1) := by decide +kernel
theorem dX7_readsFoot_109 : decode cX7_readsFoot 109 = .ok (.iadd, 1) := by decide +kernel
theorem dX7_readsFoot_110 : decode cX7_readsFoot 110 = .ok (.iconst 0, 1) := by decide +kernel
theorem dX7_readsFoot_111 : decode cX7_readsFoot 111 = .ok (.bipush 99, 2) := by decide +kernel
theorem dX7_readsFoot_113 : decode cX7_readsFoot 113 = .ok (.invokevirtual 103, 3) := by decide +kernel
theorem dX7_readsFoot_116 : decode cX7_readsFoot 116 = .ok (.ifCond .eq 14, 3) := by decide +kernel
theorem dX7_readsFoot_119 : decode cX7_readsFoot 119 = .ok (.aload_n 0, 1) := by decide +kernel
theorem dX7_readsFoot_120 : decode cX7_readsFoot 120 = .ok (.invokevirtual 106, 3) := by decide +kernel
theorem dX7_readsFoot_123 : decode cX7_readsFoot 123 = .ok (.ifCond .eq 7, 3) := by decide +kernel
theorem dX7_readsFoot_126 : decode cX7_readsFoot 126 = .ok (.iconst 1, 1) := by decide +kernel
theorem dX7_readsFoot_127 : decode cX7_readsFoot 127 = .ok (.goto 4, 3) := by decide +kernel
theorem dX7_readsFoot_130 : decode cX7_readsFoot 130 = .ok (.iconst 0, 1) := by decide +kernel
theorem dX7_readsFoot_131 : decode cX7_readsFoot 131 = .ok (.ireturn, 1) := by decide +kernel
theorem dX7_readsClimber_0 : decode cX7_readsClimber 0 = .ok (.aload_n 0, 1) := by decide +kernel
theorem dX7_readsClimber_1 : decode cX7_readsClimber 1 = .ok (.getfield 16, 3) := by decide +kernel
theorem dX7_readsClimber_4 : decode cX7_readsClimber 4 = .ok (.iconst 1, 1) := by decide +kernel
theorem dX7_readsClimber_5 : decode cX7_readsClimber 5 = .ok (.iaload, 1) := by decide +kernel
theorem dX7_readsClimber_6 : decode cX7_readsClimber 6 = .ok (.istore_n 1, 1) := by decide +kernel
theorem dX7_readsClimber_7 : decode cX7_readsClimber 7 = .ok (.iload_n 1, 1) := by decide +kernel
theorem dX7_readsClimber_8 : decode cX7_readsClimber 8 = .ok (.bipush 6, 2) := by decide +kernel
theorem dX7_readsClimber_10 : decode cX7_readsClimber 10 = .ok (.if_icmp .ne 9, 3) := by decide +kernel
theorem dX7_readsClimber_13 : decode cX7_readsClimber 13 = .ok (.aload_n 0, 1) := by decide +kernel
theorem dX7_readsClimber_14 : decode cX7_readsClimber 14 = .ok (.iconst 3, 1) := by decide +kernel
theorem dX7_readsClimber_15 : decode cX7_readsClimber 15 = .ok (.invokevirtual 99, 3) := by decide +kernel
theorem dX7_readsClimber_18 : decode cX7_readsClimber 18 = .ok (.ireturn, 1) := by decide +kernel
theorem dX7_readsClimber_19 : decode cX7_readsClimber 19 = .ok (.aload_n 0, 1) := by decide +kernel
theorem dX7_readsClimber_20 : decode cX7_readsClimber 20 = .ok (.getfield 16, 3) := by decide +kernel
theorem dX7_readsClimber_23 : decode cX7_readsClimber 23 = .ok (.iconst 1, 1) := by decide +kernel
theorem dX7_readsClimber_24 : decode cX7_readsClimber 24 = .ok (.dup2, 1) := by decide +kernel
theorem dX7_readsClimber_25 : decode cX7_readsClimber 25 = .ok (.iaload, 1) := by decide +kernel
theorem dX7_readsClimber_26 : decode cX7_readsClimber 26 = .ok (.iconst 1, 1) := by decide +kernel
theorem dX7_readsClimber_27 : decode cX7_readsClimber 27 = .ok (.iadd, 1) := by decide +kernel
theorem dX7_readsClimber_28 : decode cX7_readsClimber 28 = .ok (.iastore, 1) := by decide +kernel
theorem dX7_readsClimber_29 : decode cX7_readsClimber 29 = .ok (.aload_n 0, 1) := by decide +kernel
theorem dX7_readsClimber_30 : decode cX7_readsClimber 30 = .ok (.bipush 6, 2) := by decide +kernel
theorem dX7_readsClimber_32 : decode cX7_readsClimber 32 = .ok (.iload_n 1, 1) := by decide +kernel
theorem dX7_readsClimber_33 : decode cX7_readsClimber 33 = .ok (.iadd, 1) := by decide +kernel
theorem dX7_readsClimber_34 : decode cX7_readsClimber 34 = .ok (.iconst 1, 1) := by decide +kernel
theorem dX7_readsClimber_35 : decode cX7_readsClimber 35 = .ok (.bipush 99, 2) := by decide +kernel
theorem dX7_readsClimber_37 : decode cX7_readsClimber 37 = .ok (.invokevirtual 103, 3) := by decide +kernel
theorem dX7_readsClimber_40 : decode cX7_readsClimber 40 = .ok (.ifCond .eq 43, 3) := by decide +kernel
theorem dX7_readsClimber_43 : decode cX7_readsClimber 43 = .ok (.aload_n 0, 1) := by decide +kernel
theorem dX7_readsClimber_44 : decode cX7_readsClimber 44 = .ok (.bipush 12, 2) := by decide +kernel
theorem dX7_readsClimber_46 : decode cX7_readsClimber 46 = .ok (.iload_n 1, 1) := by decide +kernel
theorem dX7_readsClimber_47 : decode cX7_readsClimber 47 = .ok (.iadd, 1) := by decide +kernel
theorem dX7_readsClimber_48 : decode cX7_readsClimber 48 = .ok (.iconst 1, 1) := by decide +kernel
theorem dX7_readsClimber_49 : decode cX7_readsClimber 49 = .ok (.sipush 999, 3) := by decide +kernel
theorem dX7_readsClimber_52 : decode cX7_readsClimber 52 = .ok (.invokevirtual 103, 3) := by decide +kernel
theorem dX7_readsClimber_55 : decode cX7_readsClimber 55 = .ok (.ifCond .eq 28, 3) := by decide +kernel
theorem dX7_readsClimber_58 : decode cX7_readsClimber 58 = .ok (.aload_n 0, 1) := by decide +kernel
theorem dX7_readsClimber_59 : decode cX7_readsClimber 59 = .ok (.bipush 18, 2) := by decide +kernel
theorem dX7_readsClimber_61 : decode cX7_readsClimber 61 = .ok (.iload_n 1, 1) := by decide +kernel
theorem dX7_readsClimber_62 : decode cX7_readsClimber 62 = .ok (.iadd, 1) := by decide +kernel
theorem dX7_readsClimber_63 : decode cX7_readsClimber 63 = .ok (.iconst 0, 1) := by decide +kernel
theorem dX7_readsClimber_64 : decode cX7_readsClimber 64 = .ok (.bipush 20, 2) := by decide +kernel
theorem dX7_readsClimber_66 : decode cX7_readsClimber 66 = .ok (.invokevirtual 103, 3) := by decide +kernel
theorem dX7_readsClimber_69 : decode cX7_readsClimber 69 = .ok (.ifCond .eq 14, 3) := by decide +kernel
theorem dX7_readsClimber_72 : decode cX7_readsClimber 72 = .ok (.aload_n 0, 1) := by decide +kernel
theorem dX7_readsClimber_73 : decode cX7_readsClimber 73 = .ok (.invokevirtual 106, 3) := by decide +kernel
theorem dX7_readsClimber_76 : decode cX7_readsClimber 76 = .ok (.ifCond .eq 7, 3) := by decide +kernel
theorem dX7_readsClimber_79 : decode cX7_readsClimber 79 = .ok (.iconst 1, 1) := by decide +kernel
theorem dX7_readsClimber_80 : decode cX7_readsClimber 80 = .ok (.goto 4, 3) := by decide +kernel
theorem dX7_readsClimber_83 : decode cX7_readsClimber 83 = .ok (.iconst 0, 1) := by decide +kernel
theorem dX7_readsClimber_84 : decode cX7_readsClimber 84 = .ok (.ireturn, 1) := by decide +kernel
theorem dX7_readsHam_0 : decode cX7_readsHam 0 = .ok (.aload_n 0, 1) := by decide +kernel
theorem dX7_readsHam_1 : decode cX7_readsHam 1 = .ok (.getfield 109, 3) := by decide +kernel
theorem dX7_readsHam_4 : decode cX7_readsHam 4 = .ok (.ifCond .eq 9, 3) := by decide +kernel
theorem dX7_readsHam_7 : decode cX7_readsHam 7 = .ok (.aload_n 0, 1) := by decide +kernel
theorem dX7_readsHam_8 : decode cX7_readsHam 8 = .ok (.iconst 3, 1) := by decide +kernel
theorem dX7_readsHam_9 : decode cX7_readsHam 9 = .ok (.invokevirtual 99, 3) := by decide +kernel
theorem dX7_readsHam_12 : decode cX7_readsHam 12 = .ok (.ireturn, 1) := by decide +kernel
theorem dX7_readsHam_13 : decode cX7_readsHam 13 = .ok (.aload_n 0, 1) := by decide +kernel
theorem dX7_readsHam_14 : decode cX7_readsHam 14 = .ok (.iconst 1, 1) := by decide +kernel
theorem dX7_readsHam_15 : decode cX7_readsHam 15 = .ok (.putfield 109, 3) := by decide +kernel
theorem dX7_readsHam_18 : decode cX7_readsHam 18 = .ok (.aload_n 0, 1) := by decide +kernel
theorem dX7_readsHam_19 : decode cX7_readsHam 19 = .ok (.iconst 2, 1) := by decide +kernel
theorem dX7_readsHam_20 : decode cX7_readsHam 20 = .ok (.iconst 0, 1) := by decide +kernel
theorem dX7_readsHam_21 : decode cX7_readsHam 21 = .ok (.sipush 999, 3) := by decide +kernel
theorem dX7_readsHam_24 : decode cX7_readsHam 24 = .ok (.invokevirtual 103, 3) := by decide +kernel
theorem dX7_readsHam_27 : decode cX7_readsHam 27 = .ok (.ifCond .eq 25, 3) := by decide +kernel
theorem dX7_readsHam_30 : decode cX7_readsHam 30 = .ok (.aload_n 0, 1) := by decide +kernel
theorem dX7_readsHam_31 : decode cX7_readsHam 31 = .ok (.iconst 3, 1) := by decide +kernel
theorem dX7_readsHam_32 : decode cX7_readsHam 32 = .ok (.iconst 0, 1) := by decide +kernel
theorem dX7_readsHam_33 : decode cX7_readsHam 33 = .ok (.bipush 99, 2) := by decide +kernel
theorem dX7_readsHam_35 : decode cX7_readsHam 35 = .ok (.invokevirtual 103, 3) := by decide +kernel
theorem dX7_readsHam_38 : decode cX7_readsHam 38 = .ok (.ifCond .eq 14, 3) := by decide +kernel
theorem dX7_readsHam_41 : decode cX7_readsHam 41 = .ok (.aload_n 0, 1) := by decide +kernel
theorem dX7_readsHam_42 : decode cX7_readsHam 42 = .ok (.invokevirtual 106, 3) := by decide +kernel
theorem dX7_readsHam_45 : decode cX7_readsHam 45 = .ok (.ifCond .eq 7, 3) := by decide +kernel
theorem dX7_readsHam_48 : decode cX7_readsHam 48 = .ok (.iconst 1, 1) := by decide +kernel
theorem dX7_readsHam_49 : decode cX7_readsHam 49 = .ok (.goto 4, 3) := by decide +kernel
theorem dX7_readsHam_52 : decode cX7_readsHam 52 = .ok (.iconst 0, 1) := by decide +kernel
theorem dX7_readsHam_53 : decode cX7_readsHam 53 = .ok (.ireturn, 1) := by decide +kernel
theorem dX7_readsSun_0 : decode cX7_readsSun 0 = .ok (.aload_n 0, 1) := by decide +kernel
theorem dX7_readsSun_1 : decode cX7_readsSun 1 = .ok (.getfield 113, 3) := by decide +kernel
theorem dX7_readsSun_4 : decode cX7_readsSun 4 = .ok (.ifCond .eq 9, 3) := by decide +kernel
theorem dX7_readsSun_7 : decode cX7_readsSun 7 = .ok (.aload_n 0, 1) := by decide +kernel
theorem dX7_readsSun_8 : decode cX7_readsSun 8 = .ok (.iconst 3, 1) := by decide +kernel
theorem dX7_readsSun_9 : decode cX7_readsSun 9 = .ok (.invokevirtual 99, 3) := by decide +kernel
theorem dX7_readsSun_12 : decode cX7_readsSun 12 = .ok (.ireturn, 1) := by decide +kernel
theorem dX7_readsSun_13 : decode cX7_readsSun 13 = .ok (.aload_n 0, 1) := by decide +kernel
theorem dX7_readsSun_14 : decode cX7_readsSun 14 = .ok (.iconst 1, 1) := by decide +kernel
theorem dX7_readsSun_15 : decode cX7_readsSun 15 = .ok (.putfield 113, 3) := by decide +kernel
theorem dX7_readsSun_18 : decode cX7_readsSun 18 = .ok (.aload_n 0, 1) := by decide +kernel
theorem dX7_readsSun_19 : decode cX7_readsSun 19 = .ok (.iconst 4, 1) := by decide +kernel
theorem dX7_readsSun_20 : decode cX7_readsSun 20 = .ok (.iconst 1, 1) := by decide +kernel
theorem dX7_readsSun_21 : decode cX7_readsSun 21 = .ok (.bipush 20, 2) := by decide +kernel
theorem dX7_readsSun_23 : decode cX7_readsSun 23 = .ok (.invokevirtual 103, 3) := by decide +kernel
theorem dX7_readsSun_26 : decode cX7_readsSun 26 = .ok (.ifCond .eq 25, 3) := by decide +kernel
theorem dX7_readsSun_29 : decode cX7_readsSun 29 = .ok (.aload_n 0, 1) := by decide +kernel
theorem dX7_readsSun_30 : decode cX7_readsSun 30 = .ok (.iconst 5, 1) := by decide +kernel
theorem dX7_readsSun_31 : decode cX7_readsSun 31 = .ok (.iconst 0, 1) := by decide +kernel
theorem dX7_readsSun_32 : decode cX7_readsSun 32 = .ok (.bipush 9, 2) := by decide +kernel
theorem dX7_readsSun_34 : decode cX7_readsSun 34 = .ok (.invokevirtual 103, 3) := by decide +kernel
theorem dX7_readsSun_37 : decode cX7_readsSun 37 = .ok (.ifCond .eq 14, 3) := by decide +kernel
theorem dX7_readsSun_40 : decode cX7_readsSun 40 = .ok (.aload_n 0, 1) := by decide +kernel
theorem dX7_readsSun_41 : decode cX7_readsSun 41 = .ok (.invokevirtual 106, 3) := by decide +kernel
theorem dX7_readsSun_44 : decode cX7_readsSun 44 = .ok (.ifCond .eq 7, 3) := by decide +kernel
theorem dX7_readsSun_47 : decode cX7_readsSun 47 = .ok (.iconst 1, 1) := by decide +kernel
theorem dX7_readsSun_48 : decode cX7_readsSun 48 = .ok (.goto 4, 3) := by decide +kernel
theorem dX7_readsSun_51 : decode cX7_readsSun 51 = .ok (.iconst 0, 1) := by decide +kernel
theorem dX7_readsSun_52 : decode cX7_readsSun 52 = .ok (.ireturn, 1) := by decide +kernel
theorem dX7_readsClause_0 : decode cX7_readsClause 0 = .ok (.aload_n 0, 1) := by decide +kernel
theorem dX7_readsClause_1 : decode cX7_readsClause 1 = .ok (.invokevirtual 116, 3) := by decide +kernel
theorem dX7_readsClause_4 : decode cX7_readsClause 4 = .ok (.lstore_n 1, 1) := by decide +kernel
theorem dX7_readsClause_5 : decode cX7_readsClause 5 = .ok (.lload_n 1, 1) := by decide +kernel
theorem dX7_readsClause_6 : decode cX7_readsClause 6 = .ok (.ldc2_w 120, 3) := by decide +kernel
theorem dX7_readsClause_9 : decode cX7_readsClause 9 = .ok (.lcmp, 1) := by decide +kernel
theorem dX7_readsClause_10 : decode cX7_readsClause 10 = .ok (.ifCond .ne 8, 3) := by decide +kernel
theorem dX7_readsClause_13 : decode cX7_readsClause 13 = .ok (.aload_n 0, 1) := by decide +kernel
theorem dX7_readsClause_14 : decode cX7_readsClause 14 = .ok (.invokevirtual 122, 3) := by decide +kernel
theorem dX7_readsClause_17 : decode cX7_readsClause 17 = .ok (.ireturn, 1) := by decide +kernel
theorem dX7_readsClause_18 : decode cX7_readsClause 18 = .ok (.aload_n 0, 1) := by decide +kernel
theorem dX7_readsClause_19 : decode cX7_readsClause 19 = .ok (.getfield 16, 3) := by decide +kernel
theorem dX7_readsClause_22 : decode cX7_readsClause 22 = .ok (.iconst 0, 1) := by decide +kernel
theorem dX7_readsClause_23 : decode cX7_readsClause 23 = .ok (.iaload, 1) := by decide +kernel
theorem dX7_readsClause_24 : decode cX7_readsClause 24 = .ok (.ifCond .ne 9, 3) := by decide +kernel
theorem dX7_readsClause_27 : decode cX7_readsClause 27 = .ok (.aload_n 0, 1) := by decide +kernel
theorem dX7_readsClause_28 : decode cX7_readsClause 28 = .ok (.iconst 1, 1) := by decide +kernel
theorem dX7_readsClause_29 : decode cX7_readsClause 29 = .ok (.invokevirtual 99, 3) := by decide +kernel
theorem dX7_readsClause_32 : decode cX7_readsClause 32 = .ok (.ireturn, 1) := by decide +kernel
theorem dX7_readsClause_33 : decode cX7_readsClause 33 = .ok (.lload_n 1, 1) := by decide +kernel
theorem dX7_readsClause_34 : decode cX7_readsClause 34 = .ok (.ldc2_w 125, 3) := by decide +kernel
theorem dX7_readsClause_37 : decode cX7_readsClause 37 = .ok (.lcmp, 1) := by decide +kernel
theorem dX7_readsClause_38 : decode cX7_readsClause 38 = .ok (.ifCond .ne 10, 3) := by decide +kernel
theorem dX7_readsClause_41 : decode cX7_readsClause 41 = .ok (.aload_n 0, 1) := by decide +kernel
theorem dX7_readsClause_42 : decode cX7_readsClause 42 = .ok (.invokevirtual 127, 3) := by decide +kernel
theorem dX7_readsClause_45 : decode cX7_readsClause 45 = .ok (.goto 53, 3) := by decide +kernel
theorem dX7_readsClause_48 : decode cX7_readsClause 48 = .ok (.lload_n 1, 1) := by decide +kernel
theorem dX7_readsClause_49 : decode cX7_readsClause 49 = .ok (.ldc2_w 130, 3) := by decide +kernel
theorem dX7_readsClause_52 : decode cX7_readsClause 52 = .ok (.lcmp, 1) := by decide +kernel
theorem dX7_readsClause_53 : decode cX7_readsClause 53 = .ok (.ifCond .ne 10, 3) := by decide +kernel
theorem dX7_readsClause_56 : decode cX7_readsClause 56 = .ok (.aload_n 0, 1) := by decide +kernel
theorem dX7_readsClause_57 : decode cX7_readsClause 57 = .ok (.invokevirtual 132, 3) := by decide +kernel
theorem dX7_readsClause_60 : decode cX7_readsClause 60 = .ok (.goto 38, 3) := by decide +kernel
theorem dX7_readsClause_63 : decode cX7_readsClause 63 = .ok (.lload_n 1, 1) := by decide +kernel
theorem dX7_readsClause_64 : decode cX7_readsClause 64 = .ok (.ldc2_w 135, 3) := by decide +kernel
theorem dX7_readsClause_67 : decode cX7_readsClause 67 = .ok (.lcmp, 1) := by decide +kernel
theorem dX7_readsClause_68 : decode cX7_readsClause 68 = .ok (.ifCond .ne 10, 3) := by decide +kernel
theorem dX7_readsClause_71 : decode cX7_readsClause 71 = .ok (.aload_n 0, 1) := by decide +kernel
theorem dX7_readsClause_72 : decode cX7_readsClause 72 = .ok (.invokevirtual 137, 3) := by decide +kernel
theorem dX7_readsClause_75 : decode cX7_readsClause 75 = .ok (.goto 23, 3) := by decide +kernel
theorem dX7_readsClause_78 : decode cX7_readsClause 78 = .ok (.lload_n 1, 1) := by decide +kernel
theorem dX7_readsClause_79 : decode cX7_readsClause 79 = .ok (.ldc2_w 140, 3) := by decide +kernel
theorem dX7_readsClause_82 : decode cX7_readsClause 82 = .ok (.lcmp, 1) := by decide +kernel
theorem dX7_readsClause_83 : decode cX7_readsClause 83 = .ok (.ifCond .ne 10, 3) := by decide +kernel
theorem dX7_readsClause_86 : decode cX7_readsClause 86 = .ok (.aload_n 0, 1) := by decide +kernel
theorem dX7_readsClause_87 : decode cX7_readsClause 87 = .ok (.invokevirtual 142, 3) := by decide +kernel
theorem dX7_readsClause_90 : decode cX7_readsClause 90 = .ok (.goto 8, 3) := by decide +kernel
theorem dX7_readsClause_93 : decode cX7_readsClause 93 = .ok (.aload_n 0, 1) := by decide +kernel
theorem dX7_readsClause_94 : decode cX7_readsClause 94 = .ok (.iconst 1, 1) := by decide +kernel
theorem dX7_readsClause_95 : decode cX7_readsClause 95 = .ok (.invokevirtual 99, 3) := by decide +kernel
theorem dX7_readsClause_98 : decode cX7_readsClause 98 = .ok (.ireturn, 1) := by decide +kernel
theorem dX7_reads_0 : decode cX7_reads 0 = .ok (.iconst 0, 1) := by decide +kernel
theorem dX7_reads_1 : decode cX7_reads 1 = .ok (.istore_n 1, 1) := by decide +kernel
theorem dX7_reads_2 : decode cX7_reads 2 = .ok (.iload_n 1, 1) := by decide +kernel
theorem dX7_reads_3 : decode cX7_reads 3 = .ok (.bipush 56, 2) := by decide +kernel
theorem dX7_reads_5 : decode cX7_reads 5 = .ok (.if_icmp .ge 16, 3) := by decide +kernel
theorem dX7_reads_8 : decode cX7_reads 8 = .ok (.aload_n 0, 1) := by decide +kernel
theorem dX7_reads_9 : decode cX7_reads 9 = .ok (.getfield 16, 3) := by decide +kernel
theorem dX7_reads_12 : decode cX7_reads 12 = .ok (.iload_n 1, 1) := by decide +kernel
theorem dX7_reads_13 : decode cX7_reads 13 = .ok (.iconst 0, 1) := by decide +kernel
theorem dX7_reads_14 : decode cX7_reads 14 = .ok (.iastore, 1) := by decide +kernel
theorem dX7_reads_15 : decode cX7_reads 15 = .ok (.iinc 1 1, 3) := by decide +kernel
theorem dX7_reads_18 : decode cX7_reads 18 = .ok (.goto (-16), 3) := by decide +kernel
theorem dX7_reads_21 : decode cX7_reads 21 = .ok (.aload_n 0, 1) := by decide +kernel
theorem dX7_reads_22 : decode cX7_reads 22 = .ok (.getfield 16, 3) := by decide +kernel
theorem dX7_reads_25 : decode cX7_reads 25 = .ok (.iconst 2, 1) := by decide +kernel
theorem dX7_reads_26 : decode cX7_reads 26 = .ok (.bipush 100, 2) := by decide +kernel
theorem dX7_reads_28 : decode cX7_reads 28 = .ok (.iastore, 1) := by decide +kernel
theorem dX7_reads_29 : decode cX7_reads 29 = .ok (.aload_n 0, 1) := by decide +kernel
theorem dX7_reads_30 : decode cX7_reads 30 = .ok (.getfield 16, 3) := by decide +kernel
theorem dX7_reads_33 : decode cX7_reads 33 = .ok (.iconst 3, 1) := by decide +kernel
theorem dX7_reads_34 : decode cX7_reads 34 = .ok (.iconst 1, 1) := by decide +kernel
theorem dX7_reads_35 : decode cX7_reads 35 = .ok (.iastore, 1) := by decide +kernel
theorem dX7_reads_36 : decode cX7_reads 36 = .ok (.aload_n 0, 1) := by decide +kernel
theorem dX7_reads_37 : decode cX7_reads 37 = .ok (.getfield 16, 3) := by decide +kernel
theorem dX7_reads_40 : decode cX7_reads 40 = .ok (.iconst 4, 1) := by decide +kernel
theorem dX7_reads_41 : decode cX7_reads 41 = .ok (.iconst 1, 1) := by decide +kernel
theorem dX7_reads_42 : decode cX7_reads 42 = .ok (.iastore, 1) := by decide +kernel
theorem dX7_reads_43 : decode cX7_reads 43 = .ok (.aload_n 0, 1) := by decide +kernel
theorem dX7_reads_44 : decode cX7_reads 44 = .ok (.iconst 0, 1) := by decide +kernel
theorem dX7_reads_45 : decode cX7_reads 45 = .ok (.putfield 109, 3) := by decide +kernel
theorem dX7_reads_48 : decode cX7_reads 48 = .ok (.aload_n 0, 1) := by decide +kernel
theorem dX7_reads_49 : decode cX7_reads 49 = .ok (.iconst 0, 1) := by decide +kernel
theorem dX7_reads_50 : decode cX7_reads 50 = .ok (.putfield 113, 3) := by decide +kernel
theorem dX7_reads_53 : decode cX7_reads 53 = .ok (.aload_n 0, 1) := by decide +kernel
theorem dX7_reads_54 : decode cX7_reads 54 = .ok (.iconst 0, 1) := by decide +kernel
theorem dX7_reads_55 : decode cX7_reads 55 = .ok (.putfield 93, 3) := by decide +kernel
theorem dX7_reads_58 : decode cX7_reads 58 = .ok (.aload_n 0, 1) := by decide +kernel
theorem dX7_reads_59 : decode cX7_reads 59 = .ok (.iconst 0, 1) := by decide +kernel
theorem dX7_reads_60 : decode cX7_reads 60 = .ok (.putfield 72, 3) := by decide +kernel
theorem dX7_reads_63 : decode cX7_reads 63 = .ok (.aload_n 0, 1) := by decide +kernel
theorem dX7_reads_64 : decode cX7_reads 64 = .ok (.invokevirtual 96, 3) := by decide +kernel
theorem dX7_reads_67 : decode cX7_reads 67 = .ok (.aload_n 0, 1) := by decide +kernel
theorem dX7_reads_68 : decode cX7_reads 68 = .ok (.getfield 85, 3) := by decide +kernel
theorem dX7_reads_71 : decode cX7_reads 71 = .ok (.ifCond .eq 19, 3) := by decide +kernel
theorem dX7_reads_74 : decode cX7_reads 74 = .ok (.aload_n 0, 1) := by decide +kernel
theorem dX7_reads_75 : decode cX7_reads 75 = .ok (.invokevirtual 145, 3) := by decide +kernel
theorem dX7_reads_78 : decode cX7_reads 78 = .ok (.ifCond .ne 5, 3) := by decide +kernel
theorem dX7_reads_81 : decode cX7_reads 81 = .ok (.iconst 0, 1) := by decide +kernel
theorem dX7_reads_82 : decode cX7_reads 82 = .ok (.ireturn, 1) := by decide +kernel
theorem dX7_reads_83 : decode cX7_reads 83 = .ok (.aload_n 0, 1) := by decide +kernel
theorem dX7_reads_84 : decode cX7_reads 84 = .ok (.invokevirtual 96, 3) := by decide +kernel
theorem dX7_reads_87 : decode cX7_reads 87 = .ok (.goto (-20), 3) := by decide +kernel
theorem dX7_reads_90 : decode cX7_reads 90 = .ok (.iconst 1, 1) := by decide +kernel
theorem dX7_reads_91 : decode cX7_reads 91 = .ok (.ireturn, 1) := by decide +kernel
theorem dX7_tells_0 : decode cX7_tells 0 = .ok (.iconst 0, 1) := by decide +kernel
theorem dX7_tells_1 : decode cX7_tells 1 = .ok (.istore_n 1, 1) := by decide +kernel
theorem dX7_tells_2 : decode cX7_tells 2 = .ok (.iload_n 1, 1) := by decide +kernel
theorem dX7_tells_3 : decode cX7_tells 3 = .ok (.bipush 56, 2) := by decide +kernel
theorem dX7_tells_5 : decode cX7_tells 5 = .ok (.if_icmp .ge 21, 3) := by decide +kernel
theorem dX7_tells_8 : decode cX7_tells 8 = .ok (.aload_n 0, 1) := by decide +kernel
theorem dX7_tells_9 : decode cX7_tells 9 = .ok (.getfield 13, 3) := by decide +kernel
theorem dX7_tells_12 : decode cX7_tells 12 = .ok (.iload_n 1, 1) := by decide +kernel
theorem dX7_tells_13 : decode cX7_tells 13 = .ok (.aload_n 0, 1) := by decide +kernel
theorem dX7_tells_14 : decode cX7_tells 14 = .ok (.getfield 16, 3) := by decide +kernel
theorem dX7_tells_17 : decode cX7_tells 17 = .ok (.iload_n 1, 1) := by decide +kernel
theorem dX7_tells_18 : decode cX7_tells 18 = .ok (.iaload, 1) := by decide +kernel
theorem dX7_tells_19 : decode cX7_tells 19 = .ok (.iastore, 1) := by decide +kernel
theorem dX7_tells_20 : decode cX7_tells 20 = .ok (.iinc 1 1, 3) := by decide +kernel
theorem dX7_tells_23 : decode cX7_tells 23 = .ok (.goto (-21), 3) := by decide +kernel
theorem dX7_tells_26 : decode cX7_tells 26 = .ok (.aload_n 0, 1) := by decide +kernel
theorem dX7_tells_27 : decode cX7_tells 27 = .ok (.invokevirtual 148, 3) := by decide +kernel
theorem dX7_tells_30 : decode cX7_tells 30 = .ok (.aload_n 0, 1) := by decide +kernel
theorem dX7_tells_31 : decode cX7_tells 31 = .ok (.iconst 0, 1) := by decide +kernel
theorem dX7_tells_32 : decode cX7_tells 32 = .ok (.putfield 151, 3) := by decide +kernel
theorem dX7_tells_35 : decode cX7_tells 35 = .ok (.aload_n 0, 1) := by decide +kernel
theorem dX7_tells_36 : decode cX7_tells 36 = .ok (.getfield 31, 3) := by decide +kernel
theorem dX7_tells_39 : decode cX7_tells 39 = .ok (.iconst 0, 1) := by decide +kernel
theorem dX7_tells_40 : decode cX7_tells 40 = .ok (.iconst 0, 1) := by decide +kernel
theorem dX7_tells_41 : decode cX7_tells 41 = .ok (.bastore, 1) := by decide +kernel
theorem dX7_tells_42 : decode cX7_tells 42 = .ok (.aload_n 0, 1) := by decide +kernel
theorem dX7_tells_43 : decode cX7_tells 43 = .ok (.getfield 31, 3) := by decide +kernel
theorem dX7_tells_46 : decode cX7_tells 46 = .ok (.iconst 1, 1) := by decide +kernel
theorem dX7_tells_47 : decode cX7_tells 47 = .ok (.iconst 0, 1) := by decide +kernel
theorem dX7_tells_48 : decode cX7_tells 48 = .ok (.bastore, 1) := by decide +kernel
theorem dX7_tells_49 : decode cX7_tells 49 = .ok (.return_, 1) := by decide +kernel
theorem dX7_begins_0 : decode cX7_begins 0 = .ok (.iconst 0, 1) := by decide +kernel
theorem dX7_begins_1 : decode cX7_begins 1 = .ok (.istore_n 1, 1) := by decide +kernel
theorem dX7_begins_2 : decode cX7_begins 2 = .ok (.iload_n 1, 1) := by decide +kernel
theorem dX7_begins_3 : decode cX7_begins 3 = .ok (.bipush 30, 2) := by decide +kernel
theorem dX7_begins_5 : decode cX7_begins 5 = .ok (.if_icmp .ge 24, 3) := by decide +kernel
theorem dX7_begins_8 : decode cX7_begins 8 = .ok (.aload_n 0, 1) := by decide +kernel
theorem dX7_begins_9 : decode cX7_begins 9 = .ok (.getfield 19, 3) := by decide +kernel
theorem dX7_begins_12 : decode cX7_begins 12 = .ok (.iload_n 1, 1) := by decide +kernel
theorem dX7_begins_13 : decode cX7_begins 13 = .ok (.aload_n 0, 1) := by decide +kernel
theorem dX7_begins_14 : decode cX7_begins 14 = .ok (.getfield 13, 3) := by decide +kernel
theorem dX7_begins_17 : decode cX7_begins 17 = .ok (.bipush 24, 2) := by decide +kernel
theorem dX7_begins_19 : decode cX7_begins 19 = .ok (.iload_n 1, 1) := by decide +kernel
theorem dX7_begins_20 : decode cX7_begins 20 = .ok (.iadd, 1) := by decide +kernel
theorem dX7_begins_21 : decode cX7_begins 21 = .ok (.iaload, 1) := by decide +kernel
theorem dX7_begins_22 : decode cX7_begins 22 = .ok (.iastore, 1) := by decide +kernel
theorem dX7_begins_23 : decode cX7_begins 23 = .ok (.iinc 1 1, 3) := by decide +kernel
theorem dX7_begins_26 : decode cX7_begins 26 = .ok (.goto (-24), 3) := by decide +kernel
theorem dX7_begins_29 : decode cX7_begins 29 = .ok (.aload_n 0, 1) := by decide +kernel
theorem dX7_begins_30 : decode cX7_begins 30 = .ok (.getfield 19, 3) := by decide +kernel
theorem dX7_begins_33 : decode cX7_begins 33 = .ok (.bipush 30, 2) := by decide +kernel
theorem dX7_begins_35 : decode cX7_begins 35 = .ok (.iconst 0, 1) := by decide +kernel
theorem dX7_begins_36 : decode cX7_begins 36 = .ok (.iastore, 1) := by decide +kernel
theorem dX7_begins_37 : decode cX7_begins 37 = .ok (.aload_n 0, 1) := by decide +kernel
theorem dX7_begins_38 : decode cX7_begins 38 = .ok (.getfield 19, 3) := by decide +kernel
theorem dX7_begins_41 : decode cX7_begins 41 = .ok (.bipush 31, 2) := by decide +kernel
theorem dX7_begins_43 : decode cX7_begins 43 = .ok (.iconst (-1), 1) := by decide +kernel
theorem dX7_begins_44 : decode cX7_begins 44 = .ok (.iastore, 1) := by decide +kernel
theorem dX7_begins_45 : decode cX7_begins 45 = .ok (.return_, 1) := by decide +kernel
theorem dX7_pole_0 : decode cX7_pole 0 = .ok (.aload_n 0, 1) := by decide +kernel
theorem dX7_pole_1 : decode cX7_pole 1 = .ok (.invokevirtual 54, 3) := by decide +kernel
theorem dX7_pole_4 : decode cX7_pole 4 = .ok (.istore_n 1, 1) := by decide +kernel
theorem dX7_pole_5 : decode cX7_pole 5 = .ok (.aload_n 0, 1) := by decide +kernel
theorem dX7_pole_6 : decode cX7_pole 6 = .ok (.iconst 0, 1) := by decide +kernel
theorem dX7_pole_7 : decode cX7_pole 7 = .ok (.putfield 66, 3) := by decide +kernel
theorem dX7_pole_10 : decode cX7_pole 10 = .ok (.aload_n 0, 1) := by decide +kernel
theorem dX7_pole_11 : decode cX7_pole 11 = .ok (.iload_n 1, 1) := by decide +kernel
theorem dX7_pole_12 : decode cX7_pole 12 = .ok (.ifCond .eq 7, 3) := by decide +kernel
theorem dX7_pole_15 : decode cX7_pole 15 = .ok (.iconst (-1), 1) := by decide +kernel
theorem dX7_pole_16 : decode cX7_pole 16 = .ok (.goto 7, 3) := by decide +kernel
theorem dX7_pole_19 : decode cX7_pole 19 = .ok (.aload_n 0, 1) := by decide +kernel
theorem dX7_pole_20 : decode cX7_pole 20 = .ok (.getfield 79, 3) := by decide +kernel
theorem dX7_pole_23 : decode cX7_pole 23 = .ok (.putfield 41, 3) := by decide +kernel
theorem dX7_pole_26 : decode cX7_pole 26 = .ok (.iload_n 1, 1) := by decide +kernel
theorem dX7_pole_27 : decode cX7_pole 27 = .ok (.ifCond .ne 11, 3) := by decide +kernel
theorem dX7_pole_30 : decode cX7_pole 30 = .ok (.bipush (-10), 2) := by decide +kernel
theorem dX7_pole_32 : decode cX7_pole 32 = .ok (.aload_n 0, 1) := by decide +kernel
theorem dX7_pole_33 : decode cX7_pole 33 = .ok (.getfield 93, 3) := by decide +kernel
theorem dX7_pole_36 : decode cX7_pole 36 = .ok (.isub, 1) := by decide +kernel
theorem dX7_pole_37 : decode cX7_pole 37 = .ok (.ireturn, 1) := by decide +kernel
theorem dX7_pole_38 : decode cX7_pole 38 = .ok (.aload_n 0, 1) := by decide +kernel
theorem dX7_pole_39 : decode cX7_pole 39 = .ok (.invokevirtual 58, 3) := by decide +kernel
theorem dX7_pole_42 : decode cX7_pole 42 = .ok (.aload_n 0, 1) := by decide +kernel
theorem dX7_pole_43 : decode cX7_pole 43 = .ok (.getfield 13, 3) := by decide +kernel
theorem dX7_pole_46 : decode cX7_pole 46 = .ok (.iconst 0, 1) := by decide +kernel
theorem dX7_pole_47 : decode cX7_pole 47 = .ok (.iaload, 1) := by decide +kernel
theorem dX7_pole_48 : decode cX7_pole 48 = .ok (.ireturn, 1) := by decide +kernel
theorem dX7_fault_0 : decode cX7_fault 0 = .ok (.aload_n 0, 1) := by decide +kernel
theorem dX7_fault_1 : decode cX7_fault 1 = .ok (.getfield 41, 3) := by decide +kernel
theorem dX7_fault_4 : decode cX7_fault 4 = .ok (.ireturn, 1) := by decide +kernel
theorem dX7_together_0 : decode cX7_together 0 = .ok (.iconst 0, 1) := by decide +kernel
theorem dX7_together_1 : decode cX7_together 1 = .ok (.istore_n 3, 1) := by decide +kernel
theorem dX7_together_2 : decode cX7_together 2 = .ok (.iload_n 1, 1) := by decide +kernel
theorem dX7_together_3 : decode cX7_together 3 = .ok (.istore 4, 2) := by decide +kernel
theorem dX7_together_5 : decode cX7_together 5 = .ok (.iload 4, 2) := by decide +kernel
theorem dX7_together_7 : decode cX7_together 7 = .ok (.iload_n 2, 1) := by decide +kernel
theorem dX7_together_8 : decode cX7_together 8 = .ok (.if_icmp .gt 19, 3) := by decide +kernel
theorem dX7_together_11 : decode cX7_together 11 = .ok (.iload_n 3, 1) := by decide +kernel
theorem dX7_together_12 : decode cX7_together 12 = .ok (.aload_n 0, 1) := by decide +kernel
theorem dX7_together_13 : decode cX7_together 13 = .ok (.getfield 19, 3) := by decide +kernel
theorem dX7_together_16 : decode cX7_together 16 = .ok (.iload 4, 2) := by decide +kernel
theorem dX7_together_18 : decode cX7_together 18 = .ok (.iaload, 1) := by decide +kernel
theorem dX7_together_19 : decode cX7_together 19 = .ok (.iadd, 1) := by decide +kernel
theorem dX7_together_20 : decode cX7_together 20 = .ok (.istore_n 3, 1) := by decide +kernel
theorem dX7_together_21 : decode cX7_together 21 = .ok (.iinc 4 1, 3) := by decide +kernel
theorem dX7_together_24 : decode cX7_together 24 = .ok (.goto (-19), 3) := by decide +kernel
theorem dX7_together_27 : decode cX7_together 27 = .ok (.iload_n 3, 1) := by decide +kernel
theorem dX7_together_28 : decode cX7_together 28 = .ok (.ireturn, 1) := by decide +kernel
theorem dX7_told_0 : decode cX7_told 0 = .ok (.iload_n 1, 1) := by decide +kernel
theorem dX7_told_1 : decode cX7_told 1 = .ok (.iconst 0, 1) := by decide +kernel
theorem dX7_told_2 : decode cX7_told 2 = .ok (.bipush 10, 2) := by decide +kernel
theorem dX7_told_4 : decode cX7_told 4 = .ok (.invokestatic 61, 3) := by decide +kernel
theorem dX7_told_7 : decode cX7_told 7 = .ok (.ifCond .ne 6, 3) := by decide +kernel
theorem dX7_told_10 : decode cX7_told 10 = .ok (.ldc 65, 2) := by decide +kernel
theorem dX7_told_12 : decode cX7_told 12 = .ok (.ireturn, 1) := by decide +kernel
theorem dX7_told_13 : decode cX7_told 13 = .ok (.iload_n 1, 1) := by decide +kernel
theorem dX7_told_14 : decode cX7_told 14 = .ok (.bipush 6, 2) := by decide +kernel
theorem dX7_told_16 : decode cX7_told 16 = .ok (.if_icmp .ge 10, 3) := by decide +kernel
theorem dX7_told_19 : decode cX7_told 19 = .ok (.aload_n 0, 1) := by decide +kernel
theorem dX7_told_20 : decode cX7_told 20 = .ok (.getfield 13, 3) := by decide +kernel
theorem dX7_told_23 : decode cX7_told 23 = .ok (.iload_n 1, 1) := by decide +kernel
theorem dX7_told_24 : decode cX7_told 24 = .ok (.iaload, 1) := by decide +kernel
theorem dX7_told_25 : decode cX7_told 25 = .ok (.ireturn, 1) := by decide +kernel
theorem dX7_told_26 : decode cX7_told 26 = .ok (.iload_n 1, 1) := by decide +kernel
theorem dX7_told_27 : decode cX7_told 27 = .ok (.bipush 6, 2) := by decide +kernel
theorem dX7_told_29 : decode cX7_told 29 = .ok (.if_icmp .ne 10, 3) := by decide +kernel
theorem dX7_told_32 : decode cX7_told 32 = .ok (.aload_n 0, 1) := by decide +kernel
theorem dX7_told_33 : decode cX7_told 33 = .ok (.getfield 66, 3) := by decide +kernel
theorem dX7_told_36 : decode cX7_told 36 = .ok (.goto 61, 3) := by decide +kernel
theorem dX7_told_39 : decode cX7_told 39 = .ok (.iload_n 1, 1) := by decide +kernel
theorem dX7_told_40 : decode cX7_told 40 = .ok (.bipush 7, 2) := by decide +kernel
theorem dX7_told_42 : decode cX7_told 42 = .ok (.if_icmp .ne 13, 3) := by decide +kernel
theorem dX7_told_45 : decode cX7_told 45 = .ok (.aload_n 0, 1) := by decide +kernel
theorem dX7_told_46 : decode cX7_told 46 = .ok (.getfield 19, 3) := by decide +kernel
theorem dX7_told_49 : decode cX7_told 49 = .ok (.bipush 30, 2) := by decide +kernel
theorem dX7_told_51 : decode cX7_told 51 = .ok (.iaload, 1) := by decide +kernel
theorem dX7_told_52 : decode cX7_told 52 = .ok (.goto 45, 3) := by decide +kernel
theorem dX7_told_55 : decode cX7_told 55 = .ok (.iload_n 1, 1) := by decide +kernel
theorem dX7_told_56 : decode cX7_told 56 = .ok (.bipush 8, 2) := by decide +kernel
theorem dX7_told_58 : decode cX7_told 58 = .ok (.if_icmp .ne 13, 3) := by decide +kernel
theorem dX7_told_61 : decode cX7_told 61 = .ok (.aload_n 0, 1) := by decide +kernel
theorem dX7_told_62 : decode cX7_told 62 = .ok (.getfield 19, 3) := by decide +kernel
theorem dX7_told_65 : decode cX7_told 65 = .ok (.bipush 31, 2) := by decide +kernel
theorem dX7_told_67 : decode cX7_told 67 = .ok (.iaload, 1) := by decide +kernel
theorem dX7_told_68 : decode cX7_told 68 = .ok (.goto 29, 3) := by decide +kernel
theorem dX7_told_71 : decode cX7_told 71 = .ok (.iload_n 1, 1) := by decide +kernel
theorem dX7_told_72 : decode cX7_told 72 = .ok (.bipush 9, 2) := by decide +kernel
theorem dX7_told_74 : decode cX7_told 74 = .ok (.if_icmp .ne 10, 3) := by decide +kernel
theorem dX7_told_77 : decode cX7_told 77 = .ok (.aload_n 0, 1) := by decide +kernel
theorem dX7_told_78 : decode cX7_told 78 = .ok (.getfield 151, 3) := by decide +kernel
theorem dX7_told_81 : decode cX7_told 81 = .ok (.goto 16, 3) := by decide +kernel
theorem dX7_told_84 : decode cX7_told 84 = .ok (.aload_n 0, 1) := by decide +kernel
theorem dX7_told_85 : decode cX7_told 85 = .ok (.iconst 0, 1) := by decide +kernel
theorem dX7_told_86 : decode cX7_told 86 = .ok (.aload_n 0, 1) := by decide +kernel
theorem dX7_told_87 : decode cX7_told 87 = .ok (.getfield 13, 3) := by decide +kernel
theorem dX7_told_90 : decode cX7_told 90 = .ok (.iconst 0, 1) := by decide +kernel
theorem dX7_told_91 : decode cX7_told 91 = .ok (.iaload, 1) := by decide +kernel
theorem dX7_told_92 : decode cX7_told 92 = .ok (.iconst 1, 1) := by decide +kernel
theorem dX7_told_93 : decode cX7_told 93 = .ok (.isub, 1) := by decide +kernel
theorem dX7_told_94 : decode cX7_told 94 = .ok (.invokevirtual 154, 3) := by decide +kernel
theorem dX7_told_97 : decode cX7_told 97 = .ok (.ireturn, 1) := by decide +kernel
theorem dX7_slip_0 : decode cX7_slip 0 = .ok (.aload_n 0, 1) := by decide +kernel
theorem dX7_slip_1 : decode cX7_slip 1 = .ok (.iload_n 1, 1) := by decide +kernel
theorem dX7_slip_2 : decode cX7_slip 2 = .ok (.invokevirtual 158, 3) := by decide +kernel
theorem dX7_slip_5 : decode cX7_slip 5 = .ok (.ifCond .eq 12, 3) := by decide +kernel
theorem dX7_slip_8 : decode cX7_slip 8 = .ok (.aload_n 0, 1) := by decide +kernel
theorem dX7_slip_9 : decode cX7_slip 9 = .ok (.getfield 19, 3) := by decide +kernel
theorem dX7_slip_12 : decode cX7_slip 12 = .ok (.iload_n 1, 1) := by decide +kernel
theorem dX7_slip_13 : decode cX7_slip 13 = .ok (.iaload, 1) := by decide +kernel
theorem dX7_slip_14 : decode cX7_slip 14 = .ok (.goto 5, 3) := by decide +kernel
theorem dX7_slip_17 : decode cX7_slip 17 = .ok (.ldc 161, 2) := by decide +kernel
theorem dX7_slip_19 : decode cX7_slip 19 = .ok (.ireturn, 1) := by decide +kernel
theorem dX7_lays_0 : decode cX7_lays 0 = .ok (.iconst 0, 1) := by decide +kernel
theorem dX7_lays_1 : decode cX7_lays 1 = .ok (.istore_n 1, 1) := by decide +kernel
theorem dX7_lays_2 : decode cX7_lays 2 = .ok (.iload_n 1, 1) := by decide +kernel
theorem dX7_lays_3 : decode cX7_lays 3 = .ok (.bipush 32, 2) := by decide +kernel
theorem dX7_lays_5 : decode cX7_lays 5 = .ok (.if_icmp .ge 21, 3) := by decide +kernel
theorem dX7_lays_8 : decode cX7_lays 8 = .ok (.aload_n 0, 1) := by decide +kernel
theorem dX7_lays_9 : decode cX7_lays 9 = .ok (.getfield 22, 3) := by decide +kernel
theorem dX7_lays_12 : decode cX7_lays 12 = .ok (.iload_n 1, 1) := by decide +kernel
theorem dX7_lays_13 : decode cX7_lays 13 = .ok (.aload_n 0, 1) := by decide +kernel
theorem dX7_lays_14 : decode cX7_lays 14 = .ok (.getfield 19, 3) := by decide +kernel
theorem dX7_lays_17 : decode cX7_lays 17 = .ok (.iload_n 1, 1) := by decide +kernel
theorem dX7_lays_18 : decode cX7_lays 18 = .ok (.iaload, 1) := by decide +kernel
theorem dX7_lays_19 : decode cX7_lays 19 = .ok (.iastore, 1) := by decide +kernel
theorem dX7_lays_20 : decode cX7_lays 20 = .ok (.iinc 1 1, 3) := by decide +kernel
theorem dX7_lays_23 : decode cX7_lays 23 = .ok (.goto (-21), 3) := by decide +kernel
theorem dX7_lays_26 : decode cX7_lays 26 = .ok (.return_, 1) := by decide +kernel
theorem dX7_takes_0 : decode cX7_takes 0 = .ok (.iconst 0, 1) := by decide +kernel
theorem dX7_takes_1 : decode cX7_takes 1 = .ok (.istore_n 1, 1) := by decide +kernel
theorem dX7_takes_2 : decode cX7_takes 2 = .ok (.iload_n 1, 1) := by decide +kernel
theorem dX7_takes_3 : decode cX7_takes 3 = .ok (.bipush 32, 2) := by decide +kernel
theorem dX7_takes_5 : decode cX7_takes 5 = .ok (.if_icmp .ge 21, 3) := by decide +kernel
theorem dX7_takes_8 : decode cX7_takes 8 = .ok (.aload_n 0, 1) := by decide +kernel
theorem dX7_takes_9 : decode cX7_takes 9 = .ok (.getfield 19, 3) := by decide +kernel
theorem dX7_takes_12 : decode cX7_takes 12 = .ok (.iload_n 1, 1) := by decide +kernel
theorem dX7_takes_13 : decode cX7_takes 13 = .ok (.aload_n 0, 1) := by decide +kernel
theorem dX7_takes_14 : decode cX7_takes 14 = .ok (.getfield 22, 3) := by decide +kernel
theorem dX7_takes_17 : decode cX7_takes 17 = .ok (.iload_n 1, 1) := by decide +kernel
theorem dX7_takes_18 : decode cX7_takes 18 = .ok (.iaload, 1) := by decide +kernel
theorem dX7_takes_19 : decode cX7_takes 19 = .ok (.iastore, 1) := by decide +kernel
theorem dX7_takes_20 : decode cX7_takes 20 = .ok (.iinc 1 1, 3) := by decide +kernel
theorem dX7_takes_23 : decode cX7_takes 23 = .ok (.goto (-21), 3) := by decide +kernel
theorem dX7_takes_26 : decode cX7_takes 26 = .ok (.return_, 1) := by decide +kernel
theorem dX7_climbs_0 : decode cX7_climbs 0 = .ok (.aload_n 0, 1) := by decide +kernel
theorem dX7_climbs_1 : decode cX7_climbs 1 = .ok (.getfield 13, 3) := by decide +kernel
theorem dX7_climbs_4 : decode cX7_climbs 4 = .ok (.bipush 12, 2) := by decide +kernel
theorem dX7_climbs_6 : decode cX7_climbs 6 = .ok (.iload_n 1, 1) := by decide +kernel
theorem dX7_climbs_7 : decode cX7_climbs 7 = .ok (.iadd, 1) := by decide +kernel
theorem dX7_climbs_8 : decode cX7_climbs 8 = .ok (.iaload, 1) := by decide +kernel
theorem dX7_climbs_9 : decode cX7_climbs 9 = .ok (.istore 4, 2) := by decide +kernel
theorem dX7_climbs_11 : decode cX7_climbs 11 = .ok (.aload_n 0, 1) := by decide +kernel
theorem dX7_climbs_12 : decode cX7_climbs 12 = .ok (.iconst 0, 1) := by decide +kernel
theorem dX7_climbs_13 : decode cX7_climbs 13 = .ok (.putfield 162, 3) := by decide +kernel
theorem dX7_climbs_16 : decode cX7_climbs 16 = .ok (.iload_n 2, 1) := by decide +kernel
theorem dX7_climbs_17 : decode cX7_climbs 17 = .ok (.istore 5, 2) := by decide +kernel
theorem dX7_climbs_19 : decode cX7_climbs 19 = .ok (.iload 5, 2) := by decide +kernel
theorem dX7_climbs_21 : decode cX7_climbs 21 = .ok (.aload_n 0, 1) := by decide +kernel
theorem dX7_climbs_22 : decode cX7_climbs 22 = .ok (.getfield 13, 3) := by decide +kernel
theorem dX7_climbs_25 : decode cX7_climbs 25 = .ok (.iconst 0, 1) := by decide +kernel
theorem dX7_climbs_26 : decode cX7_climbs 26 = .ok (.iaload, 1) := by decide +kernel
theorem dX7_climbs_27 : decode cX7_climbs 27 = .ok (.if_icmp .ge 138, 3) := by decide +kernel
theorem dX7_climbs_30 : decode cX7_climbs 30 = .ok (.aload_n 0, 1) := by decide +kernel
theorem dX7_climbs_31 : decode cX7_climbs 31 = .ok (.getfield 22, 3) := by decide +kernel
theorem dX7_climbs_34 : decode cX7_climbs 34 = .ok (.iload 5, 2) := by decide +kernel
theorem dX7_climbs_36 : decode cX7_climbs 36 = .ok (.iaload, 1) := by decide +kernel
theorem dX7_climbs_37 : decode cX7_climbs 37 = .ok (.aload_n 0, 1) := by decide +kernel
theorem dX7_climbs_38 : decode cX7_climbs 38 = .ok (.getfield 13, 3) := by decide +kernel
theorem dX7_climbs_41 : decode cX7_climbs 41 = .ok (.bipush 6, 2) := by decide +kernel
theorem dX7_climbs_43 : decode cX7_climbs 43 = .ok (.iload_n 1, 1) := by decide +kernel
theorem dX7_climbs_44 : decode cX7_climbs 44 = .ok (.iadd, 1) := by decide +kernel
theorem dX7_climbs_45 : decode cX7_climbs 45 = .ok (.iaload, 1) := by decide +kernel
theorem dX7_climbs_46 : decode cX7_climbs 46 = .ok (.imul, 1) := by decide +kernel
theorem dX7_climbs_47 : decode cX7_climbs 47 = .ok (.bipush 50, 2) := by decide +kernel
theorem dX7_climbs_49 : decode cX7_climbs 49 = .ok (.idiv, 1) := by decide +kernel
theorem dX7_climbs_50 : decode cX7_climbs 50 = .ok (.iconst 1, 1) := by decide +kernel
theorem dX7_climbs_51 : decode cX7_climbs 51 = .ok (.iadd, 1) := by decide +kernel
theorem dX7_climbs_52 : decode cX7_climbs 52 = .ok (.istore 6, 2) := by decide +kernel
theorem dX7_climbs_54 : decode cX7_climbs 54 = .ok (.iload_n 3, 1) := by decide +kernel
theorem dX7_climbs_55 : decode cX7_climbs 55 = .ok (.ifCond .eq 20, 3) := by decide +kernel
theorem dX7_climbs_58 : decode cX7_climbs 58 = .ok (.iload 6, 2) := by decide +kernel
theorem dX7_climbs_60 : decode cX7_climbs 60 = .ok (.iconst 4, 1) := by decide +kernel
theorem dX7_climbs_61 : decode cX7_climbs 61 = .ok (.if_icmp .ge 7, 3) := by decide +kernel
theorem dX7_climbs_64 : decode cX7_climbs 64 = .ok (.iconst 1, 1) := by decide +kernel
theorem dX7_climbs_65 : decode cX7_climbs 65 = .ok (.goto 12, 3) := by decide +kernel
theorem dX7_climbs_68 : decode cX7_climbs 68 = .ok (.iload 6, 2) := by decide +kernel
theorem dX7_climbs_70 : decode cX7_climbs 70 = .ok (.iconst 2, 1) := by decide +kernel
theorem dX7_climbs_71 : decode cX7_climbs 71 = .ok (.idiv, 1) := by decide +kernel
theorem dX7_climbs_72 : decode cX7_climbs 72 = .ok (.goto 5, 3) := by decide +kernel
theorem dX7_climbs_75 : decode cX7_climbs 75 = .ok (.iload 6, 2) := by decide +kernel
theorem dX7_climbs_77 : decode cX7_climbs 77 = .ok (.istore 6, 2) := by decide +kernel
theorem dX7_climbs_79 : decode cX7_climbs 79 = .ok (.iload 6, 2) := by decide +kernel
theorem dX7_climbs_81 : decode cX7_climbs 81 = .ok (.iload 4, 2) := by decide +kernel
theorem dX7_climbs_83 : decode cX7_climbs 83 = .ok (.if_icmp .le 6, 3) := by decide +kernel
theorem dX7_climbs_86 : decode cX7_climbs 86 = .ok (.iload 5, 2) := by decide +kernel
theorem dX7_climbs_88 : decode cX7_climbs 88 = .ok (.ireturn, 1) := by decide +kernel
theorem dX7_climbs_89 : decode cX7_climbs 89 = .ok (.iload 4, 2) := by decide +kernel
theorem dX7_climbs_91 : decode cX7_climbs 91 = .ok (.iload 6, 2) := by decide +kernel
theorem dX7_climbs_93 : decode cX7_climbs 93 = .ok (.isub, 1) := by decide +kernel
theorem dX7_climbs_94 : decode cX7_climbs 94 = .ok (.istore 4, 2) := by decide +kernel
theorem dX7_climbs_96 : decode cX7_climbs 96 = .ok (.aload_n 0, 1) := by decide +kernel
theorem dX7_climbs_97 : decode cX7_climbs 97 = .ok (.getfield 22, 3) := by decide +kernel
theorem dX7_climbs_100 : decode cX7_climbs 100 = .ok (.iload 5, 2) := by decide +kernel
theorem dX7_climbs_102 : decode cX7_climbs 102 = .ok (.iaload, 1) := by decide +kernel
theorem dX7_climbs_103 : decode cX7_climbs 103 = .ok (.aload_n 0, 1) := by decide +kernel
theorem dX7_climbs_104 : decode cX7_climbs 104 = .ok (.getfield 13, 3) := by decide +kernel
theorem dX7_climbs_107 : decode cX7_climbs 107 = .ok (.bipush 18, 2) := by decide +kernel
theorem dX7_climbs_109 : decode cX7_climbs 109 = .ok (.iload_n 1, 1) := by decide +kernel
theorem dX7_climbs_110 : decode cX7_climbs 110 = .ok (.iadd, 1) := by decide +kernel
theorem dX7_climbs_111 : decode cX7_climbs 111 = .ok (.iaload, 1) := by decide +kernel
theorem dX7_climbs_112 : decode cX7_climbs 112 = .ok (.if_icmp .ge 13, 3) := by decide +kernel
theorem dX7_climbs_115 : decode cX7_climbs 115 = .ok (.aload_n 0, 1) := by decide +kernel
theorem dX7_climbs_116 : decode cX7_climbs 116 = .ok (.getfield 22, 3) := by decide +kernel
theorem dX7_climbs_119 : decode cX7_climbs 119 = .ok (.iload 5, 2) := by decide +kernel
theorem dX7_climbs_121 : decode cX7_climbs 121 = .ok (.iaload, 1) := by decide +kernel
theorem dX7_climbs_122 : decode cX7_climbs 122 = .ok (.goto 12, 3) := by decide +kernel
theorem dX7_climbs_125 : decode cX7_climbs 125 = .ok (.aload_n 0, 1) := by decide +kernel
theorem dX7_climbs_126 : decode cX7_climbs 126 = .ok (.getfield 13, 3) := by decide +kernel
theorem dX7_climbs_129 : decode cX7_climbs 129 = .ok (.bipush 18, 2) := by decide +kernel
theorem dX7_climbs_131 : decode cX7_climbs 131 = .ok (.iload_n 1, 1) := by decide +kernel
theorem dX7_climbs_132 : decode cX7_climbs 132 = .ok (.iadd, 1) := by decide +kernel
theorem dX7_climbs_133 : decode cX7_climbs 133 = .ok (.iaload, 1) := by decide +kernel
theorem dX7_climbs_134 : decode cX7_climbs 134 = .ok (.istore 7, 2) := by decide +kernel
theorem dX7_climbs_136 : decode cX7_climbs 136 = .ok (.aload_n 0, 1) := by decide +kernel
theorem dX7_climbs_137 : decode cX7_climbs 137 = .ok (.getfield 22, 3) := by decide +kernel
theorem dX7_climbs_140 : decode cX7_climbs 140 = .ok (.iload 5, 2) := by decide +kernel
theorem dX7_climbs_142 : decode cX7_climbs 142 = .ok (.dup2, 1) := by decide +kernel
theorem dX7_climbs_143 : decode cX7_climbs 143 = .ok (.iaload, 1) := by decide +kernel
theorem dX7_climbs_144 : decode cX7_climbs 144 = .ok (.iload 7, 2) := by decide +kernel
theorem dX7_climbs_146 : decode cX7_climbs 146 = .ok (.isub, 1) := by decide +kernel
theorem dX7_climbs_147 : decode cX7_climbs 147 = .ok (.iastore, 1) := by decide +kernel
theorem dX7_climbs_148 : decode cX7_climbs 148 = .ok (.aload_n 0, 1) := by decide +kernel
theorem dX7_climbs_149 : decode cX7_climbs 149 = .ok (.dup, 1) := by decide +kernel
theorem dX7_climbs_150 : decode cX7_climbs 150 = .ok (.getfield 162, 3) := by decide +kernel
theorem dX7_climbs_153 : decode cX7_climbs 153 = .ok (.iload 7, 2) := by decide +kernel
theorem dX7_climbs_155 : decode cX7_climbs 155 = .ok (.iadd, 1) := by decide +kernel
theorem dX7_climbs_156 : decode cX7_climbs 156 = .ok (.putfield 162, 3) := by decide +kernel
theorem dX7_climbs_159 : decode cX7_climbs 159 = .ok (.iinc 5 1, 3) := by decide +kernel
theorem dX7_climbs_162 : decode cX7_climbs 162 = .ok (.goto (-143), 3) := by decide +kernel
theorem dX7_climbs_165 : decode cX7_climbs 165 = .ok (.aload_n 0, 1) := by decide +kernel
theorem dX7_climbs_166 : decode cX7_climbs 166 = .ok (.getfield 13, 3) := by decide +kernel
theorem dX7_climbs_169 : decode cX7_climbs 169 = .ok (.iconst 0, 1) := by decide +kernel
theorem dX7_climbs_170 : decode cX7_climbs 170 = .ok (.iaload, 1) := by decide +kernel
theorem dX7_climbs_171 : decode cX7_climbs 171 = .ok (.ireturn, 1) := by decide +kernel
theorem dX7_goes_0 : decode cX7_goes 0 = .ok (.aload_n 0, 1) := by decide +kernel
theorem dX7_goes_1 : decode cX7_goes 1 = .ok (.iload_n 1, 1) := by decide +kernel
theorem dX7_goes_2 : decode cX7_goes 2 = .ok (.iconst 0, 1) := by decide +kernel
theorem dX7_goes_3 : decode cX7_goes 3 = .ok (.iload_n 2, 1) := by decide +kernel
theorem dX7_goes_4 : decode cX7_goes 4 = .ok (.invokevirtual 165, 3) := by decide +kernel
theorem dX7_goes_7 : decode cX7_goes 7 = .ok (.istore_n 3, 1) := by decide +kernel
theorem dX7_goes_8 : decode cX7_goes 8 = .ok (.aload_n 0, 1) := by decide +kernel
theorem dX7_goes_9 : decode cX7_goes 9 = .ok (.getfield 22, 3) := by decide +kernel
theorem dX7_goes_12 : decode cX7_goes 12 = .ok (.bipush 31, 2) := by decide +kernel
theorem dX7_goes_14 : decode cX7_goes 14 = .ok (.iload_n 3, 1) := by decide +kernel
theorem dX7_goes_15 : decode cX7_goes 15 = .ok (.aload_n 0, 1) := by decide +kernel
theorem dX7_goes_16 : decode cX7_goes 16 = .ok (.getfield 13, 3) := by decide +kernel
theorem dX7_goes_19 : decode cX7_goes 19 = .ok (.iconst 0, 1) := by decide +kernel
theorem dX7_goes_20 : decode cX7_goes 20 = .ok (.iaload, 1) := by decide +kernel
theorem dX7_goes_21 : decode cX7_goes 21 = .ok (.if_icmp .ne 18, 3) := by decide +kernel
theorem dX7_goes_24 : decode cX7_goes 24 = .ok (.aload_n 0, 1) := by decide +kernel
theorem dX7_goes_25 : decode cX7_goes 25 = .ok (.getfield 22, 3) := by decide +kernel
theorem dX7_goes_28 : decode cX7_goes 28 = .ok (.bipush 31, 2) := by decide +kernel
theorem dX7_goes_30 : decode cX7_goes 30 = .ok (.iaload, 1) := by decide +kernel
theorem dX7_goes_31 : decode cX7_goes 31 = .ok (.iconst (-1), 1) := by decide +kernel
theorem dX7_goes_32 : decode cX7_goes 32 = .ok (.if_icmp .ne 7, 3) := by decide +kernel
theorem dX7_goes_35 : decode cX7_goes 35 = .ok (.iload_n 1, 1) := by decide +kernel
theorem dX7_goes_36 : decode cX7_goes 36 = .ok (.goto 10, 3) := by decide +kernel
theorem dX7_goes_39 : decode cX7_goes 39 = .ok (.aload_n 0, 1) := by decide +kernel
theorem dX7_goes_40 : decode cX7_goes 40 = .ok (.getfield 22, 3) := by decide +kernel
theorem dX7_goes_43 : decode cX7_goes 43 = .ok (.bipush 31, 2) := by decide +kernel
theorem dX7_goes_45 : decode cX7_goes 45 = .ok (.iaload, 1) := by decide +kernel
theorem dX7_goes_46 : decode cX7_goes 46 = .ok (.iastore, 1) := by decide +kernel
theorem dX7_goes_47 : decode cX7_goes 47 = .ok (.iconst 0, 1) := by decide +kernel
theorem dX7_goes_48 : decode cX7_goes 48 = .ok (.istore 4, 2) := by decide +kernel
theorem dX7_goes_50 : decode cX7_goes 50 = .ok (.iload 4, 2) := by decide +kernel
theorem dX7_goes_52 : decode cX7_goes 52 = .ok (.aload_n 0, 1) := by decide +kernel
theorem dX7_goes_53 : decode cX7_goes 53 = .ok (.getfield 162, 3) := by decide +kernel
theorem dX7_goes_56 : decode cX7_goes 56 = .ok (.iconst 4, 1) := by decide +kernel
theorem dX7_goes_57 : decode cX7_goes 57 = .ok (.idiv, 1) := by decide +kernel
theorem dX7_goes_58 : decode cX7_goes 58 = .ok (.if_icmp .ge 42, 3) := by decide +kernel
theorem dX7_goes_61 : decode cX7_goes 61 = .ok (.iload 4, 2) := by decide +kernel
theorem dX7_goes_63 : decode cX7_goes 63 = .ok (.iload_n 3, 1) := by decide +kernel
theorem dX7_goes_64 : decode cX7_goes 64 = .ok (.irem, 1) := by decide +kernel
theorem dX7_goes_65 : decode cX7_goes 65 = .ok (.istore 5, 2) := by decide +kernel
theorem dX7_goes_67 : decode cX7_goes 67 = .ok (.aload_n 0, 1) := by decide +kernel
theorem dX7_goes_68 : decode cX7_goes 68 = .ok (.getfield 22, 3) := by decide +kernel
theorem dX7_goes_71 : decode cX7_goes 71 = .ok (.iload 5, 2) := by decide +kernel
theorem dX7_goes_73 : decode cX7_goes 73 = .ok (.dup2, 1) := by decide +kernel
theorem dX7_goes_74 : decode cX7_goes 74 = .ok (.iaload, 1) := by decide +kernel
theorem dX7_goes_75 : decode cX7_goes 75 = .ok (.aload_n 0, 1) := by decide +kernel
theorem dX7_goes_76 : decode cX7_goes 76 = .ok (.getfield 22, 3) := by decide +kernel
theorem dX7_goes_79 : decode cX7_goes 79 = .ok (.iload 5, 2) := by decide +kernel
theorem dX7_goes_81 : decode cX7_goes 81 = .ok (.iaload, 1) := by decide +kernel
theorem dX7_goes_82 : decode cX7_goes 82 = .ok (.bipush 99, 2) := by decide +kernel
theorem dX7_goes_84 : decode cX7_goes 84 = .ok (.if_icmp .ge 7, 3) := by decide +kernel
theorem dX7_goes_87 : decode cX7_goes 87 = .ok (.iconst 1, 1) := by decide +kernel
theorem dX7_goes_88 : decode cX7_goes 88 = .ok (.goto 4, 3) := by decide +kernel
theorem dX7_goes_91 : decode cX7_goes 91 = .ok (.iconst 0, 1) := by decide +kernel
theorem dX7_goes_92 : decode cX7_goes 92 = .ok (.iadd, 1) := by decide +kernel
theorem dX7_goes_93 : decode cX7_goes 93 = .ok (.iastore, 1) := by decide +kernel
theorem dX7_goes_94 : decode cX7_goes 94 = .ok (.iinc 4 1, 3) := by decide +kernel
theorem dX7_goes_97 : decode cX7_goes 97 = .ok (.goto (-47), 3) := by decide +kernel
theorem dX7_goes_100 : decode cX7_goes 100 = .ok (.aload_n 0, 1) := by decide +kernel
theorem dX7_goes_101 : decode cX7_goes 101 = .ok (.getfield 22, 3) := by decide +kernel
theorem dX7_goes_104 : decode cX7_goes 104 = .ok (.bipush 30, 2) := by decide +kernel
theorem dX7_goes_106 : decode cX7_goes 106 = .ok (.dup2, 1) := by decide +kernel
theorem dX7_goes_107 : decode cX7_goes 107 = .ok (.iaload, 1) := by decide +kernel
theorem dX7_goes_108 : decode cX7_goes 108 = .ok (.iconst 1, 1) := by decide +kernel
theorem dX7_goes_109 : decode cX7_goes 109 = .ok (.iadd, 1) := by decide +kernel
theorem dX7_goes_110 : decode cX7_goes 110 = .ok (.iastore, 1) := by decide +kernel
theorem dX7_goes_111 : decode cX7_goes 111 = .ok (.iconst 0, 1) := by decide +kernel
theorem dX7_goes_112 : decode cX7_goes 112 = .ok (.istore 4, 2) := by decide +kernel
theorem dX7_goes_114 : decode cX7_goes 114 = .ok (.iload 4, 2) := by decide +kernel
theorem dX7_goes_116 : decode cX7_goes 116 = .ok (.aload_n 0, 1) := by decide +kernel
theorem dX7_goes_117 : decode cX7_goes 117 = .ok (.getfield 13, 3) := by decide +kernel
theorem dX7_goes_120 : decode cX7_goes 120 = .ok (.iconst 0, 1) := by decide +kernel
theorem dX7_goes_121 : decode cX7_goes 121 = .ok (.iaload, 1) := by decide +kernel
theorem dX7_goes_122 : decode cX7_goes 122 = .ok (.if_icmp .ge 71, 3) := by decide +kernel
theorem dX7_goes_125 : decode cX7_goes 125 = .ok (.aload_n 0, 1) := by decide +kernel
theorem dX7_goes_126 : decode cX7_goes 126 = .ok (.getfield 22, 3) := by decide +kernel
theorem dX7_goes_129 : decode cX7_goes 129 = .ok (.bipush 30, 2) := by decide +kernel
theorem dX7_goes_131 : decode cX7_goes 131 = .ok (.iaload, 1) := by decide +kernel
theorem dX7_goes_132 : decode cX7_goes 132 = .ok (.aload_n 0, 1) := by decide +kernel
theorem dX7_goes_133 : decode cX7_goes 133 = .ok (.getfield 13, 3) := by decide +kernel
theorem dX7_goes_136 : decode cX7_goes 136 = .ok (.iconst 4, 1) := by decide +kernel
theorem dX7_goes_137 : decode cX7_goes 137 = .ok (.iaload, 1) := by decide +kernel
theorem dX7_goes_138 : decode cX7_goes 138 = .ok (.irem, 1) := by decide +kernel
theorem dX7_goes_139 : decode cX7_goes 139 = .ok (.ifCond .ne 54, 3) := by decide +kernel
theorem dX7_goes_142 : decode cX7_goes 142 = .ok (.aload_n 0, 1) := by decide +kernel
theorem dX7_goes_143 : decode cX7_goes 143 = .ok (.getfield 22, 3) := by decide +kernel
theorem dX7_goes_146 : decode cX7_goes 146 = .ok (.iload 4, 2) := by decide +kernel
theorem dX7_goes_148 : decode cX7_goes 148 = .ok (.aload_n 0, 1) := by decide +kernel
theorem dX7_goes_149 : decode cX7_goes 149 = .ok (.getfield 22, 3) := by decide +kernel
theorem dX7_goes_152 : decode cX7_goes 152 = .ok (.iload 4, 2) := by decide +kernel
theorem dX7_goes_154 : decode cX7_goes 154 = .ok (.iaload, 1) := by decide +kernel
theorem dX7_goes_155 : decode cX7_goes 155 = .ok (.aload_n 0, 1) := by decide +kernel
theorem dX7_goes_156 : decode cX7_goes 156 = .ok (.getfield 13, 3) := by decide +kernel
theorem dX7_goes_159 : decode cX7_goes 159 = .ok (.iconst 5, 1) := by decide +kernel
theorem dX7_goes_160 : decode cX7_goes 160 = .ok (.iaload, 1) := by decide +kernel
theorem dX7_goes_161 : decode cX7_goes 161 = .ok (.iadd, 1) := by decide +kernel
theorem dX7_goes_162 : decode cX7_goes 162 = .ok (.bipush 99, 2) := by decide +kernel
theorem dX7_goes_164 : decode cX7_goes 164 = .ok (.if_icmp .le 8, 3) := by decide +kernel
theorem dX7_goes_167 : decode cX7_goes 167 = .ok (.bipush 99, 2) := by decide +kernel
theorem dX7_goes_169 : decode cX7_goes 169 = .ok (.goto 17, 3) := by decide +kernel
theorem dX7_goes_172 : decode cX7_goes 172 = .ok (.aload_n 0, 1) := by decide +kernel
theorem dX7_goes_173 : decode cX7_goes 173 = .ok (.getfield 22, 3) := by decide +kernel
theorem dX7_goes_176 : decode cX7_goes 176 = .ok (.iload 4, 2) := by decide +kernel
theorem dX7_goes_178 : decode cX7_goes 178 = .ok (.iaload, 1) := by decide +kernel
theorem dX7_goes_179 : decode cX7_goes 179 = .ok (.aload_n 0, 1) := by decide +kernel
theorem dX7_goes_180 : decode cX7_goes 180 = .ok (.getfield 13, 3) := by decide +kernel
theorem dX7_goes_183 : decode cX7_goes 183 = .ok (.iconst 5, 1) := by decide +kernel
theorem dX7_goes_184 : decode cX7_goes 184 = .ok (.iaload, 1) := by decide +kernel
theorem dX7_goes_185 : decode cX7_goes 185 = .ok (.iadd, 1) := by decide +kernel
theorem dX7_goes_186 : decode cX7_goes 186 = .ok (.iastore, 1) := by decide +kernel
theorem dX7_goes_187 : decode cX7_goes 187 = .ok (.iinc 4 1, 3) := by decide +kernel
theorem dX7_goes_190 : decode cX7_goes 190 = .ok (.goto (-76), 3) := by decide +kernel
theorem dX7_goes_193 : decode cX7_goes 193 = .ok (.iload_n 3, 1) := by decide +kernel
theorem dX7_goes_194 : decode cX7_goes 194 = .ok (.ireturn, 1) := by decide +kernel
theorem dX7_climber_0 : decode cX7_climber 0 = .ok (.aload_n 0, 1) := by decide +kernel
theorem dX7_climber_1 : decode cX7_climber 1 = .ok (.iload_n 1, 1) := by decide +kernel
theorem dX7_climber_2 : decode cX7_climber 2 = .ok (.invokevirtual 169, 3) := by decide +kernel
theorem dX7_climber_5 : decode cX7_climber 5 = .ok (.ifCond .ne 6, 3) := by decide +kernel
theorem dX7_climber_8 : decode cX7_climber 8 = .ok (.ldc 161, 2) := by decide +kernel
theorem dX7_climber_10 : decode cX7_climber 10 = .ok (.ireturn, 1) := by decide +kernel
theorem dX7_climber_11 : decode cX7_climber 11 = .ok (.iload_n 2, 1) := by decide +kernel
theorem dX7_climber_12 : decode cX7_climber 12 = .ok (.iconst 0, 1) := by decide +kernel
theorem dX7_climber_13 : decode cX7_climber 13 = .ok (.iconst 3, 1) := by decide +kernel
theorem dX7_climber_14 : decode cX7_climber 14 = .ok (.invokestatic 61, 3) := by decide +kernel
theorem dX7_climber_17 : decode cX7_climber 17 = .ok (.ifCond .ne 6, 3) := by decide +kernel
theorem dX7_climber_20 : decode cX7_climber 20 = .ok (.ldc 65, 2) := by decide +kernel
theorem dX7_climber_22 : decode cX7_climber 22 = .ok (.ireturn, 1) := by decide +kernel
theorem dX7_climber_23 : decode cX7_climber 23 = .ok (.aload_n 0, 1) := by decide +kernel
theorem dX7_climber_24 : decode cX7_climber 24 = .ok (.invokevirtual 172, 3) := by decide +kernel
theorem dX7_climber_27 : decode cX7_climber 27 = .ok (.iload_n 2, 1) := by decide +kernel
theorem dX7_climber_28 : decode cX7_climber 28 = .ok (.ifCond .ne 15, 3) := by decide +kernel
theorem dX7_climber_31 : decode cX7_climber 31 = .ok (.aload_n 0, 1) := by decide +kernel
theorem dX7_climber_32 : decode cX7_climber 32 = .ok (.getfield 13, 3) := by decide +kernel
theorem dX7_climber_35 : decode cX7_climber 35 = .ok (.bipush 6, 2) := by decide +kernel
theorem dX7_climber_37 : decode cX7_climber 37 = .ok (.iload_n 1, 1) := by decide +kernel
theorem dX7_climber_38 : decode cX7_climber 38 = .ok (.iadd, 1) := by decide +kernel
theorem dX7_climber_39 : decode cX7_climber 39 = .ok (.iaload, 1) := by decide +kernel
theorem dX7_climber_40 : decode cX7_climber 40 = .ok (.goto 44, 3) := by decide +kernel
theorem dX7_climber_43 : decode cX7_climber 43 = .ok (.iload_n 2, 1) := by decide +kernel
theorem dX7_climber_44 : decode cX7_climber 44 = .ok (.iconst 1, 1) := by decide +kernel
theorem dX7_climber_45 : decode cX7_climber 45 = .ok (.if_icmp .ne 15, 3) := by decide +kernel
theorem dX7_climber_48 : decode cX7_climber 48 = .ok (.aload_n 0, 1) := by decide +kernel
theorem dX7_climber_49 : decode cX7_climber 49 = .ok (.getfield 13, 3) := by decide +kernel
theorem dX7_climber_52 : decode cX7_climber 52 = .ok (.bipush 12, 2) := by decide +kernel
theorem dX7_climber_54 : decode cX7_climber 54 = .ok (.iload_n 1, 1) := by decide +kernel
theorem dX7_climber_55 : decode cX7_climber 55 = .ok (.iadd, 1) := by decide +kernel
theorem dX7_climber_56 : decode cX7_climber 56 = .ok (.iaload, 1) := by decide +kernel
theorem dX7_climber_57 : decode cX7_climber 57 = .ok (.goto 27, 3) := by decide +kernel
theorem dX7_climber_60 : decode cX7_climber 60 = .ok (.iload_n 2, 1) := by decide +kernel
theorem dX7_climber_61 : decode cX7_climber 61 = .ok (.iconst 2, 1) := by decide +kernel
theorem dX7_climber_62 : decode cX7_climber 62 = .ok (.if_icmp .ne 15, 3) := by decide +kernel
theorem dX7_climber_65 : decode cX7_climber 65 = .ok (.aload_n 0, 1) := by decide +kernel
theorem dX7_climber_66 : decode cX7_climber 66 = .ok (.getfield 13, 3) := by decide +kernel
theorem dX7_climber_69 : decode cX7_climber 69 = .ok (.bipush 18, 2) := by decide +kernel
theorem dX7_climber_71 : decode cX7_climber 71 = .ok (.iload_n 1, 1) := by decide +kernel
theorem dX7_climber_72 : decode cX7_climber 72 = .ok (.iadd, 1) := by decide +kernel
theorem dX7_climber_73 : decode cX7_climber 73 = .ok (.iaload, 1) := by decide +kernel
theorem dX7_climber_74 : decode cX7_climber 74 = .ok (.goto 10, 3) := by decide +kernel
theorem dX7_climber_77 : decode cX7_climber 77 = .ok (.aload_n 0, 1) := by decide +kernel
theorem dX7_climber_78 : decode cX7_climber 78 = .ok (.iload_n 1, 1) := by decide +kernel
theorem dX7_climber_79 : decode cX7_climber 79 = .ok (.iconst 0, 1) := by decide +kernel
theorem dX7_climber_80 : decode cX7_climber 80 = .ok (.iconst 0, 1) := by decide +kernel
theorem dX7_climber_81 : decode cX7_climber 81 = .ok (.invokevirtual 165, 3) := by decide +kernel
theorem dX7_climber_84 : decode cX7_climber 84 = .ok (.ireturn, 1) := by decide +kernel
theorem dX7_go_0 : decode cX7_go 0 = .ok (.aload_n 0, 1) := by decide +kernel
theorem dX7_go_1 : decode cX7_go 1 = .ok (.iload_n 1, 1) := by decide +kernel
theorem dX7_go_2 : decode cX7_go 2 = .ok (.invokevirtual 169, 3) := by decide +kernel
theorem dX7_go_5 : decode cX7_go 5 = .ok (.ifCond .ne 6, 3) := by decide +kernel
theorem dX7_go_8 : decode cX7_go 8 = .ok (.ldc 161, 2) := by decide +kernel
theorem dX7_go_10 : decode cX7_go 10 = .ok (.ireturn, 1) := by decide +kernel
theorem dX7_go_11 : decode cX7_go 11 = .ok (.aload_n 0, 1) := by decide +kernel
theorem dX7_go_12 : decode cX7_go 12 = .ok (.getfield 13, 3) := by decide +kernel
theorem dX7_go_15 : decode cX7_go 15 = .ok (.iconst 0, 1) := by decide +kernel
theorem dX7_go_16 : decode cX7_go 16 = .ok (.iaload, 1) := by decide +kernel
theorem dX7_go_17 : decode cX7_go 17 = .ok (.ifCond .ne 6, 3) := by decide +kernel
theorem dX7_go_20 : decode cX7_go 20 = .ok (.ldc 175, 2) := by decide +kernel
theorem dX7_go_22 : decode cX7_go 22 = .ok (.ireturn, 1) := by decide +kernel
theorem dX7_go_23 : decode cX7_go 23 = .ok (.aload_n 0, 1) := by decide +kernel
theorem dX7_go_24 : decode cX7_go 24 = .ok (.invokevirtual 172, 3) := by decide +kernel
theorem dX7_go_27 : decode cX7_go 27 = .ok (.aload_n 0, 1) := by decide +kernel
theorem dX7_go_28 : decode cX7_go 28 = .ok (.iload_n 1, 1) := by decide +kernel
theorem dX7_go_29 : decode cX7_go 29 = .ok (.iconst 0, 1) := by decide +kernel
theorem dX7_go_30 : decode cX7_go 30 = .ok (.invokevirtual 176, 3) := by decide +kernel
theorem dX7_go_33 : decode cX7_go 33 = .ok (.istore_n 2, 1) := by decide +kernel
theorem dX7_go_34 : decode cX7_go 34 = .ok (.aload_n 0, 1) := by decide +kernel
theorem dX7_go_35 : decode cX7_go 35 = .ok (.invokevirtual 180, 3) := by decide +kernel
theorem dX7_go_38 : decode cX7_go 38 = .ok (.iload_n 2, 1) := by decide +kernel
theorem dX7_go_39 : decode cX7_go 39 = .ok (.ireturn, 1) := by decide +kernel
theorem dX7_soap_0 : decode cX7_soap 0 = .ok (.aload_n 0, 1) := by decide +kernel
theorem dX7_soap_1 : decode cX7_soap 1 = .ok (.iload_n 1, 1) := by decide +kernel
theorem dX7_soap_2 : decode cX7_soap 2 = .ok (.invokevirtual 158, 3) := by decide +kernel
theorem dX7_soap_5 : decode cX7_soap 5 = .ok (.ifCond .eq 11, 3) := by decide +kernel
theorem dX7_soap_8 : decode cX7_soap 8 = .ok (.aload_n 0, 1) := by decide +kernel
theorem dX7_soap_9 : decode cX7_soap 9 = .ok (.iload_n 2, 1) := by decide +kernel
theorem dX7_soap_10 : decode cX7_soap 10 = .ok (.invokevirtual 158, 3) := by decide +kernel
theorem dX7_soap_13 : decode cX7_soap 13 = .ok (.ifCond .ne 6, 3) := by decide +kernel
theorem dX7_soap_16 : decode cX7_soap 16 = .ok (.ldc 161, 2) := by decide +kernel
theorem dX7_soap_18 : decode cX7_soap 18 = .ok (.ireturn, 1) := by decide +kernel
theorem dX7_soap_19 : decode cX7_soap 19 = .ok (.iload_n 2, 1) := by decide +kernel
theorem dX7_soap_20 : decode cX7_soap 20 = .ok (.iload_n 1, 1) := by decide +kernel
theorem dX7_soap_21 : decode cX7_soap 21 = .ok (.if_icmp .lt 13, 3) := by decide +kernel
theorem dX7_soap_24 : decode cX7_soap 24 = .ok (.iload_n 3, 1) := by decide +kernel
theorem dX7_soap_25 : decode cX7_soap 25 = .ok (.iconst 1, 1) := by decide +kernel
theorem dX7_soap_26 : decode cX7_soap 26 = .ok (.bipush 99, 2) := by decide +kernel
theorem dX7_soap_28 : decode cX7_soap 28 = .ok (.invokestatic 61, 3) := by decide +kernel
theorem dX7_soap_31 : decode cX7_soap 31 = .ok (.ifCond .ne 6, 3) := by decide +kernel
theorem dX7_soap_34 : decode cX7_soap 34 = .ok (.ldc 65, 2) := by decide +kernel
theorem dX7_soap_36 : decode cX7_soap 36 = .ok (.ireturn, 1) := by decide +kernel
theorem dX7_soap_37 : decode cX7_soap 37 = .ok (.iload_n 1, 1) := by decide +kernel
theorem dX7_soap_38 : decode cX7_soap 38 = .ok (.istore 4, 2) := by decide +kernel
theorem dX7_soap_40 : decode cX7_soap 40 = .ok (.iload 4, 2) := by decide +kernel
theorem dX7_soap_42 : decode cX7_soap 42 = .ok (.iload_n 2, 1) := by decide +kernel
theorem dX7_soap_43 : decode cX7_soap 43 = .ok (.if_icmp .gt 44, 3) := by decide +kernel
theorem dX7_soap_46 : decode cX7_soap 46 = .ok (.aload_n 0, 1) := by decide +kernel
theorem dX7_soap_47 : decode cX7_soap 47 = .ok (.getfield 19, 3) := by decide +kernel
theorem dX7_soap_50 : decode cX7_soap 50 = .ok (.iload 4, 2) := by decide +kernel
theorem dX7_soap_52 : decode cX7_soap 52 = .ok (.aload_n 0, 1) := by decide +kernel
theorem dX7_soap_53 : decode cX7_soap 53 = .ok (.getfield 19, 3) := by decide +kernel
theorem dX7_soap_56 : decode cX7_soap 56 = .ok (.iload 4, 2) := by decide +kernel
theorem dX7_soap_58 : decode cX7_soap 58 = .ok (.iaload, 1) := by decide +kernel
theorem dX7_soap_59 : decode cX7_soap 59 = .ok (.iload_n 3, 1) := by decide +kernel
theorem dX7_soap_60 : decode cX7_soap 60 = .ok (.iadd, 1) := by decide +kernel
theorem dX7_soap_61 : decode cX7_soap 61 = .ok (.bipush 99, 2) := by decide +kernel
theorem dX7_soap_63 : decode cX7_soap 63 = .ok (.if_icmp .le 8, 3) := by decide +kernel
theorem dX7_soap_66 : decode cX7_soap 66 = .ok (.bipush 99, 2) := by decide +kernel
theorem dX7_soap_68 : decode cX7_soap 68 = .ok (.goto 12, 3) := by decide +kernel
theorem dX7_soap_71 : decode cX7_soap 71 = .ok (.aload_n 0, 1) := by decide +kernel
theorem dX7_soap_72 : decode cX7_soap 72 = .ok (.getfield 19, 3) := by decide +kernel
theorem dX7_soap_75 : decode cX7_soap 75 = .ok (.iload 4, 2) := by decide +kernel
theorem dX7_soap_77 : decode cX7_soap 77 = .ok (.iaload, 1) := by decide +kernel
theorem dX7_soap_78 : decode cX7_soap 78 = .ok (.iload_n 3, 1) := by decide +kernel
theorem dX7_soap_79 : decode cX7_soap 79 = .ok (.iadd, 1) := by decide +kernel
theorem dX7_soap_80 : decode cX7_soap 80 = .ok (.iastore, 1) := by decide +kernel
theorem dX7_soap_81 : decode cX7_soap 81 = .ok (.iinc 4 1, 3) := by decide +kernel
theorem dX7_soap_84 : decode cX7_soap 84 = .ok (.goto (-44), 3) := by decide +kernel
theorem dX7_soap_87 : decode cX7_soap 87 = .ok (.aload_n 0, 1) := by decide +kernel
theorem dX7_soap_88 : decode cX7_soap 88 = .ok (.iload_n 1, 1) := by decide +kernel
theorem dX7_soap_89 : decode cX7_soap 89 = .ok (.iload_n 2, 1) := by decide +kernel
theorem dX7_soap_90 : decode cX7_soap 90 = .ok (.invokevirtual 154, 3) := by decide +kernel
theorem dX7_soap_93 : decode cX7_soap 93 = .ok (.ireturn, 1) := by decide +kernel
theorem dX7_hang_0 : decode cX7_hang 0 = .ok (.aload_n 0, 1) := by decide +kernel
theorem dX7_hang_1 : decode cX7_hang 1 = .ok (.getfield 19, 3) := by decide +kernel
theorem dX7_hang_4 : decode cX7_hang 4 = .ok (.bipush 31, 2) := by decide +kernel
theorem dX7_hang_6 : decode cX7_hang 6 = .ok (.iaload, 1) := by decide +kernel
theorem dX7_hang_7 : decode cX7_hang 7 = .ok (.istore_n 1, 1) := by decide +kernel
theorem dX7_hang_8 : decode cX7_hang 8 = .ok (.aload_n 0, 1) := by decide +kernel
theorem dX7_hang_9 : decode cX7_hang 9 = .ok (.getfield 19, 3) := by decide +kernel
theorem dX7_hang_12 : decode cX7_hang 12 = .ok (.bipush 31, 2) := by decide +kernel
theorem dX7_hang_14 : decode cX7_hang 14 = .ok (.iconst (-1), 1) := by decide +kernel
theorem dX7_hang_15 : decode cX7_hang 15 = .ok (.iastore, 1) := by decide +kernel
theorem dX7_hang_16 : decode cX7_hang 16 = .ok (.iload_n 1, 1) := by decide +kernel
theorem dX7_hang_17 : decode cX7_hang 17 = .ok (.ireturn, 1) := by decide +kernel
theorem dX7_begin_0 : decode cX7_begin 0 = .ok (.aload_n 0, 1) := by decide +kernel
theorem dX7_begin_1 : decode cX7_begin 1 = .ok (.getfield 19, 3) := by decide +kernel
theorem dX7_begin_4 : decode cX7_begin 4 = .ok (.bipush 30, 2) := by decide +kernel
theorem dX7_begin_6 : decode cX7_begin 6 = .ok (.iaload, 1) := by decide +kernel
theorem dX7_begin_7 : decode cX7_begin 7 = .ok (.istore_n 1, 1) := by decide +kernel
theorem dX7_begin_8 : decode cX7_begin 8 = .ok (.aload_n 0, 1) := by decide +kernel
theorem dX7_begin_9 : decode cX7_begin 9 = .ok (.invokevirtual 148, 3) := by decide +kernel
theorem dX7_begin_12 : decode cX7_begin 12 = .ok (.iload_n 1, 1) := by decide +kernel
theorem dX7_begin_13 : decode cX7_begin 13 = .ok (.ireturn, 1) := by decide +kernel
theorem dX7_drift_0 : decode cX7_drift 0 = .ok (.iload_n 1, 1) := by decide +kernel
theorem dX7_drift_1 : decode cX7_drift 1 = .ok (.iconst 1, 1) := by decide +kernel
theorem dX7_drift_2 : decode cX7_drift 2 = .ok (.bipush 99, 2) := by decide +kernel
theorem dX7_drift_4 : decode cX7_drift 4 = .ok (.invokestatic 61, 3) := by decide +kernel
theorem dX7_drift_7 : decode cX7_drift 7 = .ok (.ifCond .ne 6, 3) := by decide +kernel
theorem dX7_drift_10 : decode cX7_drift 10 = .ok (.ldc 65, 2) := by decide +kernel
theorem dX7_drift_12 : decode cX7_drift 12 = .ok (.ireturn, 1) := by decide +kernel
theorem dX7_drift_13 : decode cX7_drift 13 = .ok (.aload_n 0, 1) := by decide +kernel
theorem dX7_drift_14 : decode cX7_drift 14 = .ok (.getfield 13, 3) := by decide +kernel
theorem dX7_drift_17 : decode cX7_drift 17 = .ok (.iconst 1, 1) := by decide +kernel
theorem dX7_drift_18 : decode cX7_drift 18 = .ok (.iaload, 1) := by decide +kernel
theorem dX7_drift_19 : decode cX7_drift 19 = .ok (.ifCond .ne 6, 3) := by decide +kernel
theorem dX7_drift_22 : decode cX7_drift 22 = .ok (.ldc 175, 2) := by decide +kernel
theorem dX7_drift_24 : decode cX7_drift 24 = .ok (.ireturn, 1) := by decide +kernel
theorem dX7_drift_25 : decode cX7_drift 25 = .ok (.aload_n 0, 1) := by decide +kernel
theorem dX7_drift_26 : decode cX7_drift 26 = .ok (.invokevirtual 172, 3) := by decide +kernel
theorem dX7_drift_29 : decode cX7_drift 29 = .ok (.iconst 0, 1) := by decide +kernel
theorem dX7_drift_30 : decode cX7_drift 30 = .ok (.istore_n 2, 1) := by decide +kernel
theorem dX7_drift_31 : decode cX7_drift 31 = .ok (.iload_n 2, 1) := by decide +kernel
theorem dX7_drift_32 : decode cX7_drift 32 = .ok (.iload_n 1, 1) := by decide +kernel
theorem dX7_drift_33 : decode cX7_drift 33 = .ok (.if_icmp .ge 62, 3) := by decide +kernel
theorem dX7_drift_36 : decode cX7_drift 36 = .ok (.aload_n 0, 1) := by decide +kernel
theorem dX7_drift_37 : decode cX7_drift 37 = .ok (.getfield 22, 3) := by decide +kernel
theorem dX7_drift_40 : decode cX7_drift 40 = .ok (.bipush 31, 2) := by decide +kernel
theorem dX7_drift_42 : decode cX7_drift 42 = .ok (.iaload, 1) := by decide +kernel
theorem dX7_drift_43 : decode cX7_drift 43 = .ok (.iconst (-1), 1) := by decide +kernel
theorem dX7_drift_44 : decode cX7_drift 44 = .ok (.if_icmp .ne 51, 3) := by decide +kernel
theorem dX7_drift_47 : decode cX7_drift 47 = .ok (.aload_n 0, 1) := by decide +kernel
theorem dX7_drift_48 : decode cX7_drift 48 = .ok (.aload_n 0, 1) := by decide +kernel
theorem dX7_drift_49 : decode cX7_drift 49 = .ok (.getfield 183, 3) := by decide +kernel
theorem dX7_drift_52 : decode cX7_drift 52 = .ok (.i2l, 1) := by decide +kernel
theorem dX7_drift_53 : decode cX7_drift 53 = .ok (.ldc2_w 186, 3) := by decide +kernel
theorem dX7_drift_56 : decode cX7_drift 56 = .ok (.lmul, 1) := by decide +kernel
theorem dX7_drift_57 : decode cX7_drift 57 = .ok (.ldc2_w 188, 3) := by decide +kernel
theorem dX7_drift_60 : decode cX7_drift 60 = .ok (.ladd, 1) := by decide +kernel
theorem dX7_drift_61 : decode cX7_drift 61 = .ok (.ldc2_w 190, 3) := by decide +kernel
theorem dX7_drift_64 : decode cX7_drift 64 = .ok (.land, 1) := by decide +kernel
theorem dX7_drift_65 : decode cX7_drift 65 = .ok (.l2i, 1) := by decide +kernel
theorem dX7_drift_66 : decode cX7_drift 66 = .ok (.putfield 183, 3) := by decide +kernel
theorem dX7_drift_69 : decode cX7_drift 69 = .ok (.aload_n 0, 1) := by decide +kernel
theorem dX7_drift_70 : decode cX7_drift 70 = .ok (.aload_n 0, 1) := by decide +kernel
theorem dX7_drift_71 : decode cX7_drift 71 = .ok (.getfield 183, 3) := by decide +kernel
theorem dX7_drift_74 : decode cX7_drift 74 = .ok (.ldc 192, 2) := by decide +kernel
theorem dX7_drift_76 : decode cX7_drift 76 = .ok (.idiv, 1) := by decide +kernel
theorem dX7_drift_77 : decode cX7_drift 77 = .ok (.aload_n 0, 1) := by decide +kernel
theorem dX7_drift_78 : decode cX7_drift 78 = .ok (.getfield 13, 3) := by decide +kernel
theorem dX7_drift_81 : decode cX7_drift 81 = .ok (.iconst 1, 1) := by decide +kernel
theorem dX7_drift_82 : decode cX7_drift 82 = .ok (.iaload, 1) := by decide +kernel
theorem dX7_drift_83 : decode cX7_drift 83 = .ok (.irem, 1) := by decide +kernel
theorem dX7_drift_84 : decode cX7_drift 84 = .ok (.iconst 0, 1) := by decide +kernel
theorem dX7_drift_85 : decode cX7_drift 85 = .ok (.invokevirtual 176, 3) := by decide +kernel
theorem dX7_drift_88 : decode cX7_drift 88 = .ok (.istore_n 3, 1) := by decide +kernel
theorem dX7_drift_89 : decode cX7_drift 89 = .ok (.iinc 2 1, 3) := by decide +kernel
theorem dX7_drift_92 : decode cX7_drift 92 = .ok (.goto (-61), 3) := by decide +kernel
theorem dX7_drift_95 : decode cX7_drift 95 = .ok (.aload_n 0, 1) := by decide +kernel
theorem dX7_drift_96 : decode cX7_drift 96 = .ok (.invokevirtual 180, 3) := by decide +kernel
theorem dX7_drift_99 : decode cX7_drift 99 = .ok (.aload_n 0, 1) := by decide +kernel
theorem dX7_drift_100 : decode cX7_drift 100 = .ok (.getfield 19, 3) := by decide +kernel
theorem dX7_drift_103 : decode cX7_drift 103 = .ok (.bipush 31, 2) := by decide +kernel
theorem dX7_drift_105 : decode cX7_drift 105 = .ok (.iaload, 1) := by decide +kernel
theorem dX7_drift_106 : decode cX7_drift 106 = .ok (.ireturn, 1) := by decide +kernel
theorem dX7_power_0 : decode cX7_power 0 = .ok (.iconst 1, 1) := by decide +kernel
theorem dX7_power_1 : decode cX7_power 1 = .ok (.istore_n 2, 1) := by decide +kernel
theorem dX7_power_2 : decode cX7_power 2 = .ok (.iconst 0, 1) := by decide +kernel
theorem dX7_power_3 : decode cX7_power 3 = .ok (.istore_n 3, 1) := by decide +kernel
theorem dX7_power_4 : decode cX7_power 4 = .ok (.iload_n 3, 1) := by decide +kernel
theorem dX7_power_5 : decode cX7_power 5 = .ok (.iload_n 1, 1) := by decide +kernel
theorem dX7_power_6 : decode cX7_power 6 = .ok (.if_icmp .ge 13, 3) := by decide +kernel
theorem dX7_power_9 : decode cX7_power 9 = .ok (.iload_n 2, 1) := by decide +kernel
theorem dX7_power_10 : decode cX7_power 10 = .ok (.iload_n 0, 1) := by decide +kernel
theorem dX7_power_11 : decode cX7_power 11 = .ok (.imul, 1) := by decide +kernel
theorem dX7_power_12 : decode cX7_power 12 = .ok (.istore_n 2, 1) := by decide +kernel
theorem dX7_power_13 : decode cX7_power 13 = .ok (.iinc 3 1, 3) := by decide +kernel
theorem dX7_power_16 : decode cX7_power 16 = .ok (.goto (-12), 3) := by decide +kernel
theorem dX7_power_19 : decode cX7_power 19 = .ok (.iload_n 2, 1) := by decide +kernel
theorem dX7_power_20 : decode cX7_power 20 = .ok (.ireturn, 1) := by decide +kernel
theorem dX7_figure_0 : decode cX7_figure 0 = .ok (.iload_n 0, 1) := by decide +kernel
theorem dX7_figure_1 : decode cX7_figure 1 = .ok (.iload_n 1, 1) := by decide +kernel
theorem dX7_figure_2 : decode cX7_figure 2 = .ok (.iload_n 2, 1) := by decide +kernel
theorem dX7_figure_3 : decode cX7_figure 3 = .ok (.iconst 1, 1) := by decide +kernel
theorem dX7_figure_4 : decode cX7_figure 4 = .ok (.isub, 1) := by decide +kernel
theorem dX7_figure_5 : decode cX7_figure 5 = .ok (.iload_n 3, 1) := by decide +kernel
theorem dX7_figure_6 : decode cX7_figure 6 = .ok (.isub, 1) := by decide +kernel
theorem dX7_figure_7 : decode cX7_figure 7 = .ok (.invokestatic 193, 3) := by decide +kernel
theorem dX7_figure_10 : decode cX7_figure 10 = .ok (.idiv, 1) := by decide +kernel
theorem dX7_figure_11 : decode cX7_figure 11 = .ok (.iload_n 1, 1) := by decide +kernel
theorem dX7_figure_12 : decode cX7_figure 12 = .ok (.irem, 1) := by decide +kernel
theorem dX7_figure_13 : decode cX7_figure 13 = .ok (.ireturn, 1) := by decide +kernel
theorem dX7_nextOrder_0 : decode cX7_nextOrder 0 = .ok (.iload_n 1, 1) := by decide +kernel
theorem dX7_nextOrder_1 : decode cX7_nextOrder 1 = .ok (.iconst 2, 1) := by decide +kernel
theorem dX7_nextOrder_2 : decode cX7_nextOrder 2 = .ok (.isub, 1) := by decide +kernel
theorem dX7_nextOrder_3 : decode cX7_nextOrder 3 = .ok (.istore_n 2, 1) := by decide +kernel
theorem dX7_nextOrder_4 : decode cX7_nextOrder 4 = .ok (.iload_n 2, 1) := by decide +kernel
theorem dX7_nextOrder_5 : decode cX7_nextOrder 5 = .ok (.ifCond .lt 26, 3) := by decide +kernel
theorem dX7_nextOrder_8 : decode cX7_nextOrder 8 = .ok (.aload_n 0, 1) := by decide +kernel
theorem dX7_nextOrder_9 : decode cX7_nextOrder 9 = .ok (.getfield 45, 3) := by decide +kernel
theorem dX7_nextOrder_12 : decode cX7_nextOrder 12 = .ok (.iload_n 2, 1) := by decide +kernel
theorem dX7_nextOrder_13 : decode cX7_nextOrder 13 = .ok (.iaload, 1) := by decide +kernel
theorem dX7_nextOrder_14 : decode cX7_nextOrder 14 = .ok (.aload_n 0, 1) := by decide +kernel
theorem dX7_nextOrder_15 : decode cX7_nextOrder 15 = .ok (.getfield 45, 3) := by decide +kernel
theorem dX7_nextOrder_18 : decode cX7_nextOrder 18 = .ok (.iload_n 2, 1) := by decide +kernel
theorem dX7_nextOrder_19 : decode cX7_nextOrder 19 = .ok (.iconst 1, 1) := by decide +kernel
theorem dX7_nextOrder_20 : decode cX7_nextOrder 20 = .ok (.iadd, 1) := by decide +kernel
theorem dX7_nextOrder_21 : decode cX7_nextOrder 21 = .ok (.iaload, 1) := by decide +kernel
theorem dX7_nextOrder_22 : decode cX7_nextOrder 22 = .ok (.if_icmp .le 9, 3) := by decide +kernel
theorem dX7_nextOrder_25 : decode cX7_nextOrder 25 = .ok (.iinc 2 (-1), 3) := by decide +kernel
theorem dX7_nextOrder_28 : decode cX7_nextOrder 28 = .ok (.goto (-24), 3) := by decide +kernel
theorem dX7_nextOrder_31 : decode cX7_nextOrder 31 = .ok (.iload_n 2, 1) := by decide +kernel
theorem dX7_nextOrder_32 : decode cX7_nextOrder 32 = .ok (.ifCond .ge 5, 3) := by decide +kernel
theorem dX7_nextOrder_35 : decode cX7_nextOrder 35 = .ok (.iconst 0, 1) := by decide +kernel
theorem dX7_nextOrder_36 : decode cX7_nextOrder 36 = .ok (.ireturn, 1) := by decide +kernel
theorem dX7_nextOrder_37 : decode cX7_nextOrder 37 = .ok (.iload_n 1, 1) := by decide +kernel
theorem dX7_nextOrder_38 : decode cX7_nextOrder 38 = .ok (.iconst 1, 1) := by decide +kernel
theorem dX7_nextOrder_39 : decode cX7_nextOrder 39 = .ok (.isub, 1) := by decide +kernel
theorem dX7_nextOrder_40 : decode cX7_nextOrder 40 = .ok (.istore_n 3, 1) := by decide +kernel
theorem dX7_nextOrder_41 : decode cX7_nextOrder 41 = .ok (.aload_n 0, 1) := by decide +kernel
theorem dX7_nextOrder_42 : decode cX7_nextOrder 42 = .ok (.getfield 45, 3) := by decide +kernel
theorem dX7_nextOrder_45 : decode cX7_nextOrder 45 = .ok (.iload_n 3, 1) := by decide +kernel
theorem dX7_nextOrder_46 : decode cX7_nextOrder 46 = .ok (.iaload, 1) := by decide +kernel
theorem dX7_nextOrder_47 : decode cX7_nextOrder 47 = .ok (.aload_n 0, 1) := by decide +kernel
theorem dX7_nextOrder_48 : decode cX7_nextOrder 48 = .ok (.getfield 45, 3) := by decide +kernel
theorem dX7_nextOrder_51 : decode cX7_nextOrder 51 = .ok (.iload_n 2, 1) := by decide +kernel
theorem dX7_nextOrder_52 : decode cX7_nextOrder 52 = .ok (.iaload, 1) := by decide +kernel
theorem dX7_nextOrder_53 : decode cX7_nextOrder 53 = .ok (.if_icmp .ge 9, 3) := by decide +kernel
theorem dX7_nextOrder_56 : decode cX7_nextOrder 56 = .ok (.iinc 3 (-1), 3) := by decide +kernel
theorem dX7_nextOrder_59 : decode cX7_nextOrder 59 = .ok (.goto (-18), 3) := by decide +kernel
theorem dX7_nextOrder_62 : decode cX7_nextOrder 62 = .ok (.aload_n 0, 1) := by decide +kernel
theorem dX7_nextOrder_63 : decode cX7_nextOrder 63 = .ok (.iload_n 2, 1) := by decide +kernel
theorem dX7_nextOrder_64 : decode cX7_nextOrder 64 = .ok (.iload_n 3, 1) := by decide +kernel
theorem dX7_nextOrder_65 : decode cX7_nextOrder 65 = .ok (.invokevirtual 196, 3) := by decide +kernel
theorem dX7_nextOrder_68 : decode cX7_nextOrder 68 = .ok (.iload_n 1, 1) := by decide +kernel
theorem dX7_nextOrder_69 : decode cX7_nextOrder 69 = .ok (.iconst 1, 1) := by decide +kernel
theorem dX7_nextOrder_70 : decode cX7_nextOrder 70 = .ok (.isub, 1) := by decide +kernel
theorem dX7_nextOrder_71 : decode cX7_nextOrder 71 = .ok (.istore 4, 2) := by decide +kernel
theorem dX7_nextOrder_73 : decode cX7_nextOrder 73 = .ok (.iload_n 2, 1) := by decide +kernel
theorem dX7_nextOrder_74 : decode cX7_nextOrder 74 = .ok (.iconst 1, 1) := by decide +kernel
theorem dX7_nextOrder_75 : decode cX7_nextOrder 75 = .ok (.iadd, 1) := by decide +kernel
theorem dX7_nextOrder_76 : decode cX7_nextOrder 76 = .ok (.istore 5, 2) := by decide +kernel
theorem dX7_nextOrder_78 : decode cX7_nextOrder 78 = .ok (.iload 5, 2) := by decide +kernel
theorem dX7_nextOrder_80 : decode cX7_nextOrder 80 = .ok (.iload 4, 2) := by decide +kernel
theorem dX7_nextOrder_82 : decode cX7_nextOrder 82 = .ok (.if_icmp .ge 20, 3) := by decide +kernel
theorem dX7_nextOrder_85 : decode cX7_nextOrder 85 = .ok (.aload_n 0, 1) := by decide +kernel
theorem dX7_nextOrder_86 : decode cX7_nextOrder 86 = .ok (.iload 5, 2) := by decide +kernel
theorem dX7_nextOrder_88 : decode cX7_nextOrder 88 = .ok (.iload 4, 2) := by decide +kernel
theorem dX7_nextOrder_90 : decode cX7_nextOrder 90 = .ok (.invokevirtual 196, 3) := by decide +kernel
theorem dX7_nextOrder_93 : decode cX7_nextOrder 93 = .ok (.iinc 4 (-1), 3) := by decide +kernel
theorem dX7_nextOrder_96 : decode cX7_nextOrder 96 = .ok (.iinc 5 1, 3) := by decide +kernel
theorem dX7_nextOrder_99 : decode cX7_nextOrder 99 = .ok (.goto (-21), 3) := by decide +kernel
theorem dX7_nextOrder_102 : decode cX7_nextOrder 102 = .ok (.iconst 1, 1) := by decide +kernel
theorem dX7_nextOrder_103 : decode cX7_nextOrder 103 = .ok (.ireturn, 1) := by decide +kernel
theorem dX7_swaps_0 : decode cX7_swaps 0 = .ok (.aload_n 0, 1) := by decide +kernel
theorem dX7_swaps_1 : decode cX7_swaps 1 = .ok (.getfield 45, 3) := by decide +kernel
theorem dX7_swaps_4 : decode cX7_swaps 4 = .ok (.iload_n 1, 1) := by decide +kernel
theorem dX7_swaps_5 : decode cX7_swaps 5 = .ok (.iaload, 1) := by decide +kernel
theorem dX7_swaps_6 : decode cX7_swaps 6 = .ok (.istore_n 3, 1) := by decide +kernel
theorem dX7_swaps_7 : decode cX7_swaps 7 = .ok (.aload_n 0, 1) := by decide +kernel
theorem dX7_swaps_8 : decode cX7_swaps 8 = .ok (.getfield 45, 3) := by decide +kernel
theorem dX7_swaps_11 : decode cX7_swaps 11 = .ok (.iload_n 1, 1) := by decide +kernel
theorem dX7_swaps_12 : decode cX7_swaps 12 = .ok (.aload_n 0, 1) := by decide +kernel
theorem dX7_swaps_13 : decode cX7_swaps 13 = .ok (.getfield 45, 3) := by decide +kernel
theorem dX7_swaps_16 : decode cX7_swaps 16 = .ok (.iload_n 2, 1) := by decide +kernel
theorem dX7_swaps_17 : decode cX7_swaps 17 = .ok (.iaload, 1) := by decide +kernel
theorem dX7_swaps_18 : decode cX7_swaps 18 = .ok (.iastore, 1) := by decide +kernel
theorem dX7_swaps_19 : decode cX7_swaps 19 = .ok (.aload_n 0, 1) := by decide +kernel
theorem dX7_swaps_20 : decode cX7_swaps 20 = .ok (.getfield 45, 3) := by decide +kernel
theorem dX7_swaps_23 : decode cX7_swaps 23 = .ok (.iload_n 2, 1) := by decide +kernel
theorem dX7_swaps_24 : decode cX7_swaps 24 = .ok (.iload_n 3, 1) := by decide +kernel
theorem dX7_swaps_25 : decode cX7_swaps 25 = .ok (.iastore, 1) := by decide +kernel
theorem dX7_swaps_26 : decode cX7_swaps 26 = .ok (.return_, 1) := by decide +kernel
theorem dX7_hadBy_0 : decode cX7_hadBy 0 = .ok (.aload_n 0, 1) := by decide +kernel
theorem dX7_hadBy_1 : decode cX7_hadBy 1 = .ok (.invokevirtual 172, 3) := by decide +kernel
theorem dX7_hadBy_4 : decode cX7_hadBy 4 = .ok (.iconst 0, 1) := by decide +kernel
theorem dX7_hadBy_5 : decode cX7_hadBy 5 = .ok (.istore_n 2, 1) := by decide +kernel
theorem dX7_hadBy_6 : decode cX7_hadBy 6 = .ok (.iload_n 2, 1) := by decide +kernel
theorem dX7_hadBy_7 : decode cX7_hadBy 7 = .ok (.iload_n 1, 1) := by decide +kernel
theorem dX7_hadBy_8 : decode cX7_hadBy 8 = .ok (.if_icmp .ge 32, 3) := by decide +kernel
theorem dX7_hadBy_11 : decode cX7_hadBy 11 = .ok (.aload_n 0, 1) := by decide +kernel
theorem dX7_hadBy_12 : decode cX7_hadBy 12 = .ok (.getfield 22, 3) := by decide +kernel
theorem dX7_hadBy_15 : decode cX7_hadBy 15 = .ok (.bipush 31, 2) := by decide +kernel
theorem dX7_hadBy_17 : decode cX7_hadBy 17 = .ok (.iaload, 1) := by decide +kernel
theorem dX7_hadBy_18 : decode cX7_hadBy 18 = .ok (.iconst (-1), 1) := by decide +kernel
theorem dX7_hadBy_19 : decode cX7_hadBy 19 = .ok (.if_icmp .ne 21, 3) := by decide +kernel
theorem dX7_hadBy_22 : decode cX7_hadBy 22 = .ok (.aload_n 0, 1) := by decide +kernel
theorem dX7_hadBy_23 : decode cX7_hadBy 23 = .ok (.aload_n 0, 1) := by decide +kernel
theorem dX7_hadBy_24 : decode cX7_hadBy 24 = .ok (.getfield 45, 3) := by decide +kernel
theorem dX7_hadBy_27 : decode cX7_hadBy 27 = .ok (.iload_n 2, 1) := by decide +kernel
theorem dX7_hadBy_28 : decode cX7_hadBy 28 = .ok (.iaload, 1) := by decide +kernel
theorem dX7_hadBy_29 : decode cX7_hadBy 29 = .ok (.iconst 0, 1) := by decide +kernel
theorem dX7_hadBy_30 : decode cX7_hadBy 30 = .ok (.invokevirtual 176, 3) := by decide +kernel
theorem dX7_hadBy_33 : decode cX7_hadBy 33 = .ok (.istore_n 3, 1) := by decide +kernel
theorem dX7_hadBy_34 : decode cX7_hadBy 34 = .ok (.iinc 2 1, 3) := by decide +kernel
theorem dX7_hadBy_37 : decode cX7_hadBy 37 = .ok (.goto (-31), 3) := by decide +kernel
theorem dX7_hadBy_40 : decode cX7_hadBy 40 = .ok (.aload_n 0, 1) := by decide +kernel
theorem dX7_hadBy_41 : decode cX7_hadBy 41 = .ok (.getfield 22, 3) := by decide +kernel
theorem dX7_hadBy_44 : decode cX7_hadBy 44 = .ok (.bipush 31, 2) := by decide +kernel
theorem dX7_hadBy_46 : decode cX7_hadBy 46 = .ok (.iaload, 1) := by decide +kernel
theorem dX7_hadBy_47 : decode cX7_hadBy 47 = .ok (.iconst (-1), 1) := by decide +kernel
theorem dX7_hadBy_48 : decode cX7_hadBy 48 = .ok (.if_icmp .ne 9, 3) := by decide +kernel
theorem dX7_hadBy_51 : decode cX7_hadBy 51 = .ok (.iload_n 1, 1) := by decide +kernel
theorem dX7_hadBy_52 : decode cX7_hadBy 52 = .ok (.iconst 1, 1) := by decide +kernel
theorem dX7_hadBy_53 : decode cX7_hadBy 53 = .ok (.iadd, 1) := by decide +kernel
theorem dX7_hadBy_54 : decode cX7_hadBy 54 = .ok (.goto 4, 3) := by decide +kernel
theorem dX7_hadBy_57 : decode cX7_hadBy 57 = .ok (.iload_n 2, 1) := by decide +kernel
theorem dX7_hadBy_58 : decode cX7_hadBy 58 = .ok (.ireturn, 1) := by decide +kernel
theorem dX7_order_0 : decode cX7_order 0 = .ok (.aload_n 0, 1) := by decide +kernel
theorem dX7_order_1 : decode cX7_order 1 = .ok (.getfield 13, 3) := by decide +kernel
theorem dX7_order_4 : decode cX7_order 4 = .ok (.iconst 1, 1) := by decide +kernel
theorem dX7_order_5 : decode cX7_order 5 = .ok (.iaload, 1) := by decide +kernel
theorem dX7_order_6 : decode cX7_order 6 = .ok (.istore_n 2, 1) := by decide +kernel
theorem dX7_order_7 : decode cX7_order 7 = .ok (.aload_n 0, 1) := by decide +kernel
theorem dX7_order_8 : decode cX7_order 8 = .ok (.getfield 19, 3) := by decide +kernel
theorem dX7_order_11 : decode cX7_order 11 = .ok (.bipush 31, 2) := by decide +kernel
theorem dX7_order_13 : decode cX7_order 13 = .ok (.iaload, 1) := by decide +kernel
theorem dX7_order_14 : decode cX7_order 14 = .ok (.iconst (-1), 1) := by decide +kernel
theorem dX7_order_15 : decode cX7_order 15 = .ok (.if_icmp .ne 18, 3) := by decide +kernel
theorem dX7_order_18 : decode cX7_order 18 = .ok (.iload_n 2, 1) := by decide +kernel
theorem dX7_order_19 : decode cX7_order 19 = .ok (.ifCond .eq 14, 3) := by decide +kernel
theorem dX7_order_22 : decode cX7_order 22 = .ok (.iload_n 1, 1) := by decide +kernel
theorem dX7_order_23 : decode cX7_order 23 = .ok (.bipush (-2), 2) := by decide +kernel
theorem dX7_order_25 : decode cX7_order 25 = .ok (.if_icmp .lt 8, 3) := by decide +kernel
theorem dX7_order_28 : decode cX7_order 28 = .ok (.iload_n 1, 1) := by decide +kernel
theorem dX7_order_29 : decode cX7_order 29 = .ok (.iload_n 2, 1) := by decide +kernel
theorem dX7_order_30 : decode cX7_order 30 = .ok (.if_icmp .lt 5, 3) := by decide +kernel
theorem dX7_order_33 : decode cX7_order 33 = .ok (.iconst (-1), 1) := by decide +kernel
theorem dX7_order_34 : decode cX7_order 34 = .ok (.ireturn, 1) := by decide +kernel
theorem dX7_order_35 : decode cX7_order 35 = .ok (.iconst 0, 1) := by decide +kernel
theorem dX7_order_36 : decode cX7_order 36 = .ok (.istore_n 3, 1) := by decide +kernel
theorem dX7_order_37 : decode cX7_order 37 = .ok (.iload_n 3, 1) := by decide +kernel
theorem dX7_order_38 : decode cX7_order 38 = .ok (.bipush 6, 2) := by decide +kernel
theorem dX7_order_40 : decode cX7_order 40 = .ok (.if_icmp .ge 16, 3) := by decide +kernel
theorem dX7_order_43 : decode cX7_order 43 = .ok (.aload_n 0, 1) := by decide +kernel
theorem dX7_order_44 : decode cX7_order 44 = .ok (.getfield 45, 3) := by decide +kernel
theorem dX7_order_47 : decode cX7_order 47 = .ok (.iload_n 3, 1) := by decide +kernel
theorem dX7_order_48 : decode cX7_order 48 = .ok (.iload_n 3, 1) := by decide +kernel
theorem dX7_order_49 : decode cX7_order 49 = .ok (.iastore, 1) := by decide +kernel
theorem dX7_order_50 : decode cX7_order 50 = .ok (.iinc 3 1, 3) := by decide +kernel
theorem dX7_order_53 : decode cX7_order 53 = .ok (.goto (-16), 3) := by decide +kernel
theorem dX7_order_56 : decode cX7_order 56 = .ok (.iload_n 2, 1) := by decide +kernel
theorem dX7_order_57 : decode cX7_order 57 = .ok (.iconst 1, 1) := by decide +kernel
theorem dX7_order_58 : decode cX7_order 58 = .ok (.iadd, 1) := by decide +kernel
theorem dX7_order_59 : decode cX7_order 59 = .ok (.istore_n 3, 1) := by decide +kernel
theorem dX7_order_60 : decode cX7_order 60 = .ok (.iconst 1, 1) := by decide +kernel
theorem dX7_order_61 : decode cX7_order 61 = .ok (.istore 4, 2) := by decide +kernel
theorem dX7_order_63 : decode cX7_order 63 = .ok (.iload 4, 2) := by decide +kernel
theorem dX7_order_65 : decode cX7_order 65 = .ok (.ifCond .eq 68, 3) := by decide +kernel
theorem dX7_order_68 : decode cX7_order 68 = .ok (.aload_n 0, 1) := by decide +kernel
theorem dX7_order_69 : decode cX7_order 69 = .ok (.iload_n 2, 1) := by decide +kernel
theorem dX7_order_70 : decode cX7_order 70 = .ok (.invokevirtual 200, 3) := by decide +kernel
theorem dX7_order_73 : decode cX7_order 73 = .ok (.istore 5, 2) := by decide +kernel
theorem dX7_order_75 : decode cX7_order 75 = .ok (.iconst 0, 1) := by decide +kernel
theorem dX7_order_76 : decode cX7_order 76 = .ok (.istore 6, 2) := by decide +kernel
theorem dX7_order_78 : decode cX7_order 78 = .ok (.iload 6, 2) := by decide +kernel
theorem dX7_order_80 : decode cX7_order 80 = .ok (.iload_n 2, 1) := by decide +kernel
theorem dX7_order_81 : decode cX7_order 81 = .ok (.if_icmp .ge 29, 3) := by decide +kernel
theorem dX7_order_84 : decode cX7_order 84 = .ok (.iload 5, 2) := by decide +kernel
theorem dX7_order_86 : decode cX7_order 86 = .ok (.iload_n 3, 1) := by decide +kernel
theorem dX7_order_87 : decode cX7_order 87 = .ok (.if_icmp .ge 23, 3) := by decide +kernel
theorem dX7_order_90 : decode cX7_order 90 = .ok (.aload_n 0, 1) := by decide +kernel
theorem dX7_order_91 : decode cX7_order 91 = .ok (.getfield 48, 3) := by decide +kernel
theorem dX7_order_94 : decode cX7_order 94 = .ok (.iload 6, 2) := by decide +kernel
theorem dX7_order_96 : decode cX7_order 96 = .ok (.aload_n 0, 1) := by decide +kernel
theorem dX7_order_97 : decode cX7_order 97 = .ok (.getfield 45, 3) := by decide +kernel
theorem dX7_order_100 : decode cX7_order 100 = .ok (.iload 6, 2) := by decide +kernel
theorem dX7_order_102 : decode cX7_order 102 = .ok (.iaload, 1) := by decide +kernel
theorem dX7_order_103 : decode cX7_order 103 = .ok (.iastore, 1) := by decide +kernel
theorem dX7_order_104 : decode cX7_order 104 = .ok (.iinc 6 1, 3) := by decide +kernel
theorem dX7_order_107 : decode cX7_order 107 = .ok (.goto (-29), 3) := by decide +kernel
theorem dX7_order_110 : decode cX7_order 110 = .ok (.iload 5, 2) := by decide +kernel
theorem dX7_order_112 : decode cX7_order 112 = .ok (.iload_n 3, 1) := by decide +kernel
theorem dX7_order_113 : decode cX7_order 113 = .ok (.if_icmp .ge 8, 3) := by decide +kernel
theorem dX7_order_116 : decode cX7_order 116 = .ok (.iload 5, 2) := by decide +kernel
theorem dX7_order_118 : decode cX7_order 118 = .ok (.goto 4, 3) := by decide +kernel
theorem dX7_order_121 : decode cX7_order 121 = .ok (.iload_n 3, 1) := by decide +kernel
theorem dX7_order_122 : decode cX7_order 122 = .ok (.istore_n 3, 1) := by decide +kernel
theorem dX7_order_123 : decode cX7_order 123 = .ok (.aload_n 0, 1) := by decide +kernel
theorem dX7_order_124 : decode cX7_order 124 = .ok (.iload_n 2, 1) := by decide +kernel
theorem dX7_order_125 : decode cX7_order 125 = .ok (.invokevirtual 203, 3) := by decide +kernel
theorem dX7_order_128 : decode cX7_order 128 = .ok (.istore 4, 2) := by decide +kernel
theorem dX7_order_130 : decode cX7_order 130 = .ok (.goto (-67), 3) := by decide +kernel
theorem dX7_order_133 : decode cX7_order 133 = .ok (.iload_n 3, 1) := by decide +kernel
theorem dX7_order_134 : decode cX7_order 134 = .ok (.iload_n 2, 1) := by decide +kernel
theorem dX7_order_135 : decode cX7_order 135 = .ok (.if_icmp .le 5, 3) := by decide +kernel
theorem dX7_order_138 : decode cX7_order 138 = .ok (.iconst (-1), 1) := by decide +kernel
theorem dX7_order_139 : decode cX7_order 139 = .ok (.ireturn, 1) := by decide +kernel
theorem dX7_order_140 : decode cX7_order 140 = .ok (.iload_n 1, 1) := by decide +kernel
theorem dX7_order_141 : decode cX7_order 141 = .ok (.iconst (-1), 1) := by decide +kernel
theorem dX7_order_142 : decode cX7_order 142 = .ok (.if_icmp .ne 7, 3) := by decide +kernel
theorem dX7_order_145 : decode cX7_order 145 = .ok (.iload_n 3, 1) := by decide +kernel
theorem dX7_order_146 : decode cX7_order 146 = .ok (.goto 21, 3) := by decide +kernel
theorem dX7_order_149 : decode cX7_order 149 = .ok (.aload_n 0, 1) := by decide +kernel
theorem dX7_order_150 : decode cX7_order 150 = .ok (.getfield 48, 3) := by decide +kernel
theorem dX7_order_153 : decode cX7_order 153 = .ok (.iload_n 1, 1) := by decide +kernel
theorem dX7_order_154 : decode cX7_order 154 = .ok (.bipush (-2), 2) := by decide +kernel
theorem dX7_order_156 : decode cX7_order 156 = .ok (.if_icmp .ne 9, 3) := by decide +kernel
theorem dX7_order_159 : decode cX7_order 159 = .ok (.iload_n 3, 1) := by decide +kernel
theorem dX7_order_160 : decode cX7_order 160 = .ok (.iconst 1, 1) := by decide +kernel
theorem dX7_order_161 : decode cX7_order 161 = .ok (.isub, 1) := by decide +kernel
theorem dX7_order_162 : decode cX7_order 162 = .ok (.goto 4, 3) := by decide +kernel
theorem dX7_order_165 : decode cX7_order 165 = .ok (.iload_n 1, 1) := by decide +kernel
theorem dX7_order_166 : decode cX7_order 166 = .ok (.iaload, 1) := by decide +kernel
theorem dX7_order_167 : decode cX7_order 167 = .ok (.ireturn, 1) := by decide +kernel
theorem dX7_isHis_0 : decode cX7_isHis 0 = .ok (.aload_n 0, 1) := by decide +kernel
theorem dX7_isHis_1 : decode cX7_isHis 1 = .ok (.invokevirtual 172, 3) := by decide +kernel
theorem dX7_isHis_4 : decode cX7_isHis 4 = .ok (.iconst 0, 1) := by decide +kernel
theorem dX7_isHis_5 : decode cX7_isHis 5 = .ok (.istore 4, 2) := by decide +kernel
theorem dX7_isHis_7 : decode cX7_isHis 7 = .ok (.iload 4, 2) := by decide +kernel
theorem dX7_isHis_9 : decode cX7_isHis 9 = .ok (.iload_n 2, 1) := by decide +kernel
theorem dX7_isHis_10 : decode cX7_isHis 10 = .ok (.if_icmp .ge 40, 3) := by decide +kernel
theorem dX7_isHis_13 : decode cX7_isHis 13 = .ok (.aload_n 0, 1) := by decide +kernel
theorem dX7_isHis_14 : decode cX7_isHis 14 = .ok (.getfield 22, 3) := by decide +kernel
theorem dX7_isHis_17 : decode cX7_isHis 17 = .ok (.bipush 31, 2) := by decide +kernel
theorem dX7_isHis_19 : decode cX7_isHis 19 = .ok (.iaload, 1) := by decide +kernel
theorem dX7_isHis_20 : decode cX7_isHis 20 = .ok (.iconst (-1), 1) := by decide +kernel
theorem dX7_isHis_21 : decode cX7_isHis 21 = .ok (.if_icmp .ne 29, 3) := by decide +kernel
theorem dX7_isHis_24 : decode cX7_isHis 24 = .ok (.aload_n 0, 1) := by decide +kernel
theorem dX7_isHis_25 : decode cX7_isHis 25 = .ok (.iload_n 1, 1) := by decide +kernel
theorem dX7_isHis_26 : decode cX7_isHis 26 = .ok (.aload_n 0, 1) := by decide +kernel
theorem dX7_isHis_27 : decode cX7_isHis 27 = .ok (.getfield 13, 3) := by decide +kernel
theorem dX7_isHis_30 : decode cX7_isHis 30 = .ok (.iconst 1, 1) := by decide +kernel
theorem dX7_isHis_31 : decode cX7_isHis 31 = .ok (.iaload, 1) := by decide +kernel
theorem dX7_isHis_32 : decode cX7_isHis 32 = .ok (.iload_n 2, 1) := by decide +kernel
theorem dX7_isHis_33 : decode cX7_isHis 33 = .ok (.iload 4, 2) := by decide +kernel
theorem dX7_isHis_35 : decode cX7_isHis 35 = .ok (.invokestatic 206, 3) := by decide +kernel
theorem dX7_isHis_38 : decode cX7_isHis 38 = .ok (.iconst 0, 1) := by decide +kernel
theorem dX7_isHis_39 : decode cX7_isHis 39 = .ok (.invokevirtual 176, 3) := by decide +kernel
theorem dX7_isHis_42 : decode cX7_isHis 42 = .ok (.istore 5, 2) := by decide +kernel
theorem dX7_isHis_44 : decode cX7_isHis 44 = .ok (.iinc 4 1, 3) := by decide +kernel
theorem dX7_isHis_47 : decode cX7_isHis 47 = .ok (.goto (-40), 3) := by decide +kernel
theorem dX7_isHis_50 : decode cX7_isHis 50 = .ok (.aload_n 0, 1) := by decide +kernel
theorem dX7_isHis_51 : decode cX7_isHis 51 = .ok (.getfield 22, 3) := by decide +kernel
theorem dX7_isHis_54 : decode cX7_isHis 54 = .ok (.bipush 31, 2) := by decide +kernel
theorem dX7_isHis_56 : decode cX7_isHis 56 = .ok (.iaload, 1) := by decide +kernel
theorem dX7_isHis_57 : decode cX7_isHis 57 = .ok (.iconst (-1), 1) := by decide +kernel
theorem dX7_isHis_58 : decode cX7_isHis 58 = .ok (.if_icmp .eq 5, 3) := by decide +kernel
theorem dX7_isHis_61 : decode cX7_isHis 61 = .ok (.iconst 0, 1) := by decide +kernel
theorem dX7_isHis_62 : decode cX7_isHis 62 = .ok (.ireturn, 1) := by decide +kernel
theorem dX7_isHis_63 : decode cX7_isHis 63 = .ok (.aload_n 0, 1) := by decide +kernel
theorem dX7_isHis_64 : decode cX7_isHis 64 = .ok (.iload_n 3, 1) := by decide +kernel
theorem dX7_isHis_65 : decode cX7_isHis 65 = .ok (.iconst 0, 1) := by decide +kernel
theorem dX7_isHis_66 : decode cX7_isHis 66 = .ok (.invokevirtual 176, 3) := by decide +kernel
theorem dX7_isHis_69 : decode cX7_isHis 69 = .ok (.istore 4, 2) := by decide +kernel
theorem dX7_isHis_71 : decode cX7_isHis 71 = .ok (.aload_n 0, 1) := by decide +kernel
theorem dX7_isHis_72 : decode cX7_isHis 72 = .ok (.getfield 22, 3) := by decide +kernel
theorem dX7_isHis_75 : decode cX7_isHis 75 = .ok (.bipush 31, 2) := by decide +kernel
theorem dX7_isHis_77 : decode cX7_isHis 77 = .ok (.iaload, 1) := by decide +kernel
theorem dX7_isHis_78 : decode cX7_isHis 78 = .ok (.iload_n 3, 1) := by decide +kernel
theorem dX7_isHis_79 : decode cX7_isHis 79 = .ok (.if_icmp .ne 7, 3) := by decide +kernel
theorem dX7_isHis_82 : decode cX7_isHis 82 = .ok (.iconst 1, 1) := by decide +kernel
theorem dX7_isHis_83 : decode cX7_isHis 83 = .ok (.goto 4, 3) := by decide +kernel
theorem dX7_isHis_86 : decode cX7_isHis 86 = .ok (.iconst 0, 1) := by decide +kernel
theorem dX7_isHis_87 : decode cX7_isHis 87 = .ok (.ireturn, 1) := by decide +kernel
theorem dX7_forOne_0 : decode cX7_forOne 0 = .ok (.aload_n 0, 1) := by decide +kernel
theorem dX7_forOne_1 : decode cX7_forOne 1 = .ok (.iload_n 1, 1) := by decide +kernel
theorem dX7_forOne_2 : decode cX7_forOne 2 = .ok (.invokevirtual 169, 3) := by decide +kernel
theorem dX7_forOne_5 : decode cX7_forOne 5 = .ok (.ifCond .ne 6, 3) := by decide +kernel
theorem dX7_forOne_8 : decode cX7_forOne 8 = .ok (.ldc 161, 2) := by decide +kernel
theorem dX7_forOne_10 : decode cX7_forOne 10 = .ok (.ireturn, 1) := by decide +kernel
theorem dX7_forOne_11 : decode cX7_forOne 11 = .ok (.aload_n 0, 1) := by decide +kernel
theorem dX7_forOne_12 : decode cX7_forOne 12 = .ok (.getfield 19, 3) := by decide +kernel
theorem dX7_forOne_15 : decode cX7_forOne 15 = .ok (.bipush 31, 2) := by decide +kernel
theorem dX7_forOne_17 : decode cX7_forOne 17 = .ok (.iaload, 1) := by decide +kernel
theorem dX7_forOne_18 : decode cX7_forOne 18 = .ok (.iconst (-1), 1) := by decide +kernel
theorem dX7_forOne_19 : decode cX7_forOne 19 = .ok (.if_icmp .ne 8, 3) := by decide +kernel
theorem dX7_forOne_22 : decode cX7_forOne 22 = .ok (.iload_n 2, 1) := by decide +kernel
theorem dX7_forOne_23 : decode cX7_forOne 23 = .ok (.iconst (-1), 1) := by decide +kernel
theorem dX7_forOne_24 : decode cX7_forOne 24 = .ok (.if_icmp .ge 5, 3) := by decide +kernel
theorem dX7_forOne_27 : decode cX7_forOne 27 = .ok (.iconst (-1), 1) := by decide +kernel
theorem dX7_forOne_28 : decode cX7_forOne 28 = .ok (.ireturn, 1) := by decide +kernel
theorem dX7_forOne_29 : decode cX7_forOne 29 = .ok (.iconst 0, 1) := by decide +kernel
theorem dX7_forOne_30 : decode cX7_forOne 30 = .ok (.istore_n 3, 1) := by decide +kernel
theorem dX7_forOne_31 : decode cX7_forOne 31 = .ok (.iload_n 3, 1) := by decide +kernel
theorem dX7_forOne_32 : decode cX7_forOne 32 = .ok (.bipush 6, 2) := by decide +kernel
theorem dX7_forOne_34 : decode cX7_forOne 34 = .ok (.if_icmp .ge 87, 3) := by decide +kernel
theorem dX7_forOne_37 : decode cX7_forOne 37 = .ok (.iconst 0, 1) := by decide +kernel
theorem dX7_forOne_38 : decode cX7_forOne 38 = .ok (.istore 4, 2) := by decide +kernel
theorem dX7_forOne_40 : decode cX7_forOne 40 = .ok (.iload 4, 2) := by decide +kernel
theorem dX7_forOne_42 : decode cX7_forOne 42 = .ok (.aload_n 0, 1) := by decide +kernel
theorem dX7_forOne_43 : decode cX7_forOne 43 = .ok (.getfield 13, 3) := by decide +kernel
theorem dX7_forOne_46 : decode cX7_forOne 46 = .ok (.iconst 1, 1) := by decide +kernel
theorem dX7_forOne_47 : decode cX7_forOne 47 = .ok (.iaload, 1) := by decide +kernel
theorem dX7_forOne_48 : decode cX7_forOne 48 = .ok (.iload_n 3, 1) := by decide +kernel
theorem dX7_forOne_49 : decode cX7_forOne 49 = .ok (.invokestatic 193, 3) := by decide +kernel
theorem dX7_forOne_52 : decode cX7_forOne 52 = .ok (.if_icmp .ge 63, 3) := by decide +kernel
theorem dX7_forOne_55 : decode cX7_forOne 55 = .ok (.aload_n 0, 1) := by decide +kernel
theorem dX7_forOne_56 : decode cX7_forOne 56 = .ok (.iload 4, 2) := by decide +kernel
theorem dX7_forOne_58 : decode cX7_forOne 58 = .ok (.iload_n 3, 1) := by decide +kernel
theorem dX7_forOne_59 : decode cX7_forOne 59 = .ok (.iload_n 1, 1) := by decide +kernel
theorem dX7_forOne_60 : decode cX7_forOne 60 = .ok (.invokevirtual 210, 3) := by decide +kernel
theorem dX7_forOne_63 : decode cX7_forOne 63 = .ok (.ifCond .eq 46, 3) := by decide +kernel
theorem dX7_forOne_66 : decode cX7_forOne 66 = .ok (.iload_n 2, 1) := by decide +kernel
theorem dX7_forOne_67 : decode cX7_forOne 67 = .ok (.iconst (-1), 1) := by decide +kernel
theorem dX7_forOne_68 : decode cX7_forOne 68 = .ok (.if_icmp .ne 9, 3) := by decide +kernel
theorem dX7_forOne_71 : decode cX7_forOne 71 = .ok (.iload_n 3, 1) := by decide +kernel
theorem dX7_forOne_72 : decode cX7_forOne 72 = .ok (.iconst 1, 1) := by decide +kernel
theorem dX7_forOne_73 : decode cX7_forOne 73 = .ok (.iadd, 1) := by decide +kernel
theorem dX7_forOne_74 : decode cX7_forOne 74 = .ok (.goto 34, 3) := by decide +kernel
theorem dX7_forOne_77 : decode cX7_forOne 77 = .ok (.iload_n 2, 1) := by decide +kernel
theorem dX7_forOne_78 : decode cX7_forOne 78 = .ok (.iload_n 3, 1) := by decide +kernel
theorem dX7_forOne_79 : decode cX7_forOne 79 = .ok (.if_icmp .ge 19, 3) := by decide +kernel
theorem dX7_forOne_82 : decode cX7_forOne 82 = .ok (.iload 4, 2) := by decide +kernel
theorem dX7_forOne_84 : decode cX7_forOne 84 = .ok (.aload_n 0, 1) := by decide +kernel
theorem dX7_forOne_85 : decode cX7_forOne 85 = .ok (.getfield 13, 3) := by decide +kernel
theorem dX7_forOne_88 : decode cX7_forOne 88 = .ok (.iconst 1, 1) := by decide +kernel
theorem dX7_forOne_89 : decode cX7_forOne 89 = .ok (.iaload, 1) := by decide +kernel
theorem dX7_forOne_90 : decode cX7_forOne 90 = .ok (.iload_n 3, 1) := by decide +kernel
theorem dX7_forOne_91 : decode cX7_forOne 91 = .ok (.iload_n 2, 1) := by decide +kernel
theorem dX7_forOne_92 : decode cX7_forOne 92 = .ok (.invokestatic 206, 3) := by decide +kernel
theorem dX7_forOne_95 : decode cX7_forOne 95 = .ok (.goto 13, 3) := by decide +kernel
theorem dX7_forOne_98 : decode cX7_forOne 98 = .ok (.iload_n 2, 1) := by decide +kernel
theorem dX7_forOne_99 : decode cX7_forOne 99 = .ok (.iload_n 3, 1) := by decide +kernel
theorem dX7_forOne_100 : decode cX7_forOne 100 = .ok (.if_icmp .ne 7, 3) := by decide +kernel
theorem dX7_forOne_103 : decode cX7_forOne 103 = .ok (.iload_n 1, 1) := by decide +kernel
theorem dX7_forOne_104 : decode cX7_forOne 104 = .ok (.goto 4, 3) := by decide +kernel
theorem dX7_forOne_107 : decode cX7_forOne 107 = .ok (.iconst (-1), 1) := by decide +kernel
theorem dX7_forOne_108 : decode cX7_forOne 108 = .ok (.ireturn, 1) := by decide +kernel
theorem dX7_forOne_109 : decode cX7_forOne 109 = .ok (.iinc 4 1, 3) := by decide +kernel
theorem dX7_forOne_112 : decode cX7_forOne 112 = .ok (.goto (-72), 3) := by decide +kernel
theorem dX7_forOne_115 : decode cX7_forOne 115 = .ok (.iinc 3 1, 3) := by decide +kernel
theorem dX7_forOne_118 : decode cX7_forOne 118 = .ok (.goto (-87), 3) := by decide +kernel
theorem dX7_forOne_121 : decode cX7_forOne 121 = .ok (.iconst (-1), 1) := by decide +kernel
theorem dX7_forOne_122 : decode cX7_forOne 122 = .ok (.ireturn, 1) := by decide +kernel
theorem dX7_worthOf_0 : decode cX7_worthOf 0 = .ok (.aload_n 0, 1) := by decide +kernel
theorem dX7_worthOf_1 : decode cX7_worthOf 1 = .ok (.invokevirtual 172, 3) := by decide +kernel
theorem dX7_worthOf_4 : decode cX7_worthOf 4 = .ok (.iconst 0, 1) := by decide +kernel
theorem dX7_worthOf_5 : decode cX7_worthOf 5 = .ok (.istore_n 2, 1) := by decide +kernel
theorem dX7_worthOf_6 : decode cX7_worthOf 6 = .ok (.iconst 0, 1) := by decide +kernel
theorem dX7_worthOf_7 : decode cX7_worthOf 7 = .ok (.istore_n 3, 1) := by decide +kernel
theorem dX7_worthOf_8 : decode cX7_worthOf 8 = .ok (.iload_n 3, 1) := by decide +kernel
theorem dX7_worthOf_9 : decode cX7_worthOf 9 = .ok (.bipush 36, 2) := by decide +kernel
theorem dX7_worthOf_11 : decode cX7_worthOf 11 = .ok (.if_icmp .ge 109, 3) := by decide +kernel
theorem dX7_worthOf_14 : decode cX7_worthOf 14 = .ok (.iload_n 3, 1) := by decide +kernel
theorem dX7_worthOf_15 : decode cX7_worthOf 15 = .ok (.bipush 6, 2) := by decide +kernel
theorem dX7_worthOf_17 : decode cX7_worthOf 17 = .ok (.irem, 1) := by decide +kernel
theorem dX7_worthOf_18 : decode cX7_worthOf 18 = .ok (.istore 4, 2) := by decide +kernel
theorem dX7_worthOf_20 : decode cX7_worthOf 20 = .ok (.iload 4, 2) := by decide +kernel
theorem dX7_worthOf_22 : decode cX7_worthOf 22 = .ok (.aload_n 0, 1) := by decide +kernel
theorem dX7_worthOf_23 : decode cX7_worthOf 23 = .ok (.getfield 13, 3) := by decide +kernel
theorem dX7_worthOf_26 : decode cX7_worthOf 26 = .ok (.iconst 1, 1) := by decide +kernel
theorem dX7_worthOf_27 : decode cX7_worthOf 27 = .ok (.iaload, 1) := by decide +kernel
theorem dX7_worthOf_28 : decode cX7_worthOf 28 = .ok (.if_icmp .ge 86, 3) := by decide +kernel
theorem dX7_worthOf_31 : decode cX7_worthOf 31 = .ok (.aload_n 0, 1) := by decide +kernel
theorem dX7_worthOf_32 : decode cX7_worthOf 32 = .ok (.getfield 51, 3) := by decide +kernel
theorem dX7_worthOf_35 : decode cX7_worthOf 35 = .ok (.iload 4, 2) := by decide +kernel
theorem dX7_worthOf_37 : decode cX7_worthOf 37 = .ok (.iaload, 1) := by decide +kernel
theorem dX7_worthOf_38 : decode cX7_worthOf 38 = .ok (.iload_n 3, 1) := by decide +kernel
theorem dX7_worthOf_39 : decode cX7_worthOf 39 = .ok (.bipush 6, 2) := by decide +kernel
theorem dX7_worthOf_41 : decode cX7_worthOf 41 = .ok (.idiv, 1) := by decide +kernel
theorem dX7_worthOf_42 : decode cX7_worthOf 42 = .ok (.if_icmp .ne 72, 3) := by decide +kernel
theorem dX7_worthOf_45 : decode cX7_worthOf 45 = .ok (.aload_n 0, 1) := by decide +kernel
theorem dX7_worthOf_46 : decode cX7_worthOf 46 = .ok (.getfield 22, 3) := by decide +kernel
theorem dX7_worthOf_49 : decode cX7_worthOf 49 = .ok (.bipush 31, 2) := by decide +kernel
theorem dX7_worthOf_51 : decode cX7_worthOf 51 = .ok (.iaload, 1) := by decide +kernel
theorem dX7_worthOf_52 : decode cX7_worthOf 52 = .ok (.iconst (-1), 1) := by decide +kernel
theorem dX7_worthOf_53 : decode cX7_worthOf 53 = .ok (.if_icmp .ne 61, 3) := by decide +kernel
theorem dX7_worthOf_56 : decode cX7_worthOf 56 = .ok (.aload_n 0, 1) := by decide +kernel
theorem dX7_worthOf_57 : decode cX7_worthOf 57 = .ok (.iload 4, 2) := by decide +kernel
theorem dX7_worthOf_59 : decode cX7_worthOf 59 = .ok (.iconst 0, 1) := by decide +kernel
theorem dX7_worthOf_60 : decode cX7_worthOf 60 = .ok (.invokevirtual 176, 3) := by decide +kernel
theorem dX7_worthOf_63 : decode cX7_worthOf 63 = .ok (.istore 5, 2) := by decide +kernel
theorem dX7_worthOf_65 : decode cX7_worthOf 65 = .ok (.iload_n 2, 1) := by decide +kernel
theorem dX7_worthOf_66 : decode cX7_worthOf 66 = .ok (.iload 4, 2) := by decide +kernel
theorem dX7_worthOf_68 : decode cX7_worthOf 68 = .ok (.iload_n 1, 1) := by decide +kernel
theorem dX7_worthOf_69 : decode cX7_worthOf 69 = .ok (.if_icmp .ne 12, 3) := by decide +kernel
theorem dX7_worthOf_72 : decode cX7_worthOf 72 = .ok (.aload_n 0, 1) := by decide +kernel
theorem dX7_worthOf_73 : decode cX7_worthOf 73 = .ok (.getfield 13, 3) := by decide +kernel
theorem dX7_worthOf_76 : decode cX7_worthOf 76 = .ok (.iconst 3, 1) := by decide +kernel
theorem dX7_worthOf_77 : decode cX7_worthOf 77 = .ok (.iaload, 1) := by decide +kernel
theorem dX7_worthOf_78 : decode cX7_worthOf 78 = .ok (.goto 4, 3) := by decide +kernel
theorem dX7_worthOf_81 : decode cX7_worthOf 81 = .ok (.iconst 0, 1) := by decide +kernel
theorem dX7_worthOf_82 : decode cX7_worthOf 82 = .ok (.isub, 1) := by decide +kernel
theorem dX7_worthOf_83 : decode cX7_worthOf 83 = .ok (.istore_n 2, 1) := by decide +kernel
theorem dX7_worthOf_84 : decode cX7_worthOf 84 = .ok (.iload_n 2, 1) := by decide +kernel
theorem dX7_worthOf_85 : decode cX7_worthOf 85 = .ok (.iload 4, 2) := by decide +kernel
theorem dX7_worthOf_87 : decode cX7_worthOf 87 = .ok (.iload_n 1, 1) := by decide +kernel
theorem dX7_worthOf_88 : decode cX7_worthOf 88 = .ok (.if_icmp .ne 23, 3) := by decide +kernel
theorem dX7_worthOf_91 : decode cX7_worthOf 91 = .ok (.aload_n 0, 1) := by decide +kernel
theorem dX7_worthOf_92 : decode cX7_worthOf 92 = .ok (.getfield 22, 3) := by decide +kernel
theorem dX7_worthOf_95 : decode cX7_worthOf 95 = .ok (.bipush 31, 2) := by decide +kernel
theorem dX7_worthOf_97 : decode cX7_worthOf 97 = .ok (.iaload, 1) := by decide +kernel
theorem dX7_worthOf_98 : decode cX7_worthOf 98 = .ok (.iload_n 1, 1) := by decide +kernel
theorem dX7_worthOf_99 : decode cX7_worthOf 99 = .ok (.if_icmp .ne 12, 3) := by decide +kernel
theorem dX7_worthOf_102 : decode cX7_worthOf 102 = .ok (.aload_n 0, 1) := by decide +kernel
theorem dX7_worthOf_103 : decode cX7_worthOf 103 = .ok (.getfield 13, 3) := by decide +kernel
theorem dX7_worthOf_106 : decode cX7_worthOf 106 = .ok (.iconst 2, 1) := by decide +kernel
theorem dX7_worthOf_107 : decode cX7_worthOf 107 = .ok (.iaload, 1) := by decide +kernel
theorem dX7_worthOf_108 : decode cX7_worthOf 108 = .ok (.goto 4, 3) := by decide +kernel
theorem dX7_worthOf_111 : decode cX7_worthOf 111 = .ok (.iconst 0, 1) := by decide +kernel
theorem dX7_worthOf_112 : decode cX7_worthOf 112 = .ok (.iadd, 1) := by decide +kernel
theorem dX7_worthOf_113 : decode cX7_worthOf 113 = .ok (.istore_n 2, 1) := by decide +kernel
theorem dX7_worthOf_114 : decode cX7_worthOf 114 = .ok (.iinc 3 1, 3) := by decide +kernel
theorem dX7_worthOf_117 : decode cX7_worthOf 117 = .ok (.goto (-109), 3) := by decide +kernel
theorem dX7_worthOf_120 : decode cX7_worthOf 120 = .ok (.iload_n 2, 1) := by decide +kernel
theorem dX7_worthOf_121 : decode cX7_worthOf 121 = .ok (.ireturn, 1) := by decide +kernel
theorem dX7_bestTurn_0 : decode cX7_bestTurn 0 = .ok (.bipush 6, 2) := by decide +kernel
theorem dX7_bestTurn_2 : decode cX7_bestTurn 2 = .ok (.istore_n 2, 1) := by decide +kernel
theorem dX7_bestTurn_3 : decode cX7_bestTurn 3 = .ok (.iconst 0, 1) := by decide +kernel
theorem dX7_bestTurn_4 : decode cX7_bestTurn 4 = .ok (.istore_n 3, 1) := by decide +kernel
theorem dX7_bestTurn_5 : decode cX7_bestTurn 5 = .ok (.bipush 6, 2) := by decide +kernel
theorem dX7_bestTurn_7 : decode cX7_bestTurn 7 = .ok (.istore 4, 2) := by decide +kernel
theorem dX7_bestTurn_9 : decode cX7_bestTurn 9 = .ok (.iload 4, 2) := by decide +kernel
theorem dX7_bestTurn_11 : decode cX7_bestTurn 11 = .ok (.ifCond .lt 64, 3) := by decide +kernel
theorem dX7_bestTurn_14 : decode cX7_bestTurn 14 = .ok (.aload_n 0, 1) := by decide +kernel
theorem dX7_bestTurn_15 : decode cX7_bestTurn 15 = .ok (.getfield 51, 3) := by decide +kernel
theorem dX7_bestTurn_18 : decode cX7_bestTurn 18 = .ok (.iload_n 1, 1) := by decide +kernel
theorem dX7_bestTurn_19 : decode cX7_bestTurn 19 = .ok (.iload 4, 2) := by decide +kernel
theorem dX7_bestTurn_21 : decode cX7_bestTurn 21 = .ok (.iastore, 1) := by decide +kernel
theorem dX7_bestTurn_22 : decode cX7_bestTurn 22 = .ok (.aload_n 0, 1) := by decide +kernel
theorem dX7_bestTurn_23 : decode cX7_bestTurn 23 = .ok (.iload_n 1, 1) := by decide +kernel
theorem dX7_bestTurn_24 : decode cX7_bestTurn 24 = .ok (.invokevirtual 213, 3) := by decide +kernel
theorem dX7_bestTurn_27 : decode cX7_bestTurn 27 = .ok (.istore 5, 2) := by decide +kernel
theorem dX7_bestTurn_29 : decode cX7_bestTurn 29 = .ok (.iload 4, 2) := by decide +kernel
theorem dX7_bestTurn_31 : decode cX7_bestTurn 31 = .ok (.bipush 6, 2) := by decide +kernel
theorem dX7_bestTurn_33 : decode cX7_bestTurn 33 = .ok (.if_icmp .eq 9, 3) := by decide +kernel
theorem dX7_bestTurn_36 : decode cX7_bestTurn 36 = .ok (.iload 5, 2) := by decide +kernel
theorem dX7_bestTurn_38 : decode cX7_bestTurn 38 = .ok (.iload_n 3, 1) := by decide +kernel
theorem dX7_bestTurn_39 : decode cX7_bestTurn 39 = .ok (.if_icmp .le 8, 3) := by decide +kernel
theorem dX7_bestTurn_42 : decode cX7_bestTurn 42 = .ok (.iload 4, 2) := by decide +kernel
theorem dX7_bestTurn_44 : decode cX7_bestTurn 44 = .ok (.goto 4, 3) := by decide +kernel
theorem dX7_bestTurn_47 : decode cX7_bestTurn 47 = .ok (.iload_n 2, 1) := by decide +kernel
theorem dX7_bestTurn_48 : decode cX7_bestTurn 48 = .ok (.istore_n 2, 1) := by decide +kernel
theorem dX7_bestTurn_49 : decode cX7_bestTurn 49 = .ok (.iload 4, 2) := by decide +kernel
theorem dX7_bestTurn_51 : decode cX7_bestTurn 51 = .ok (.bipush 6, 2) := by decide +kernel
theorem dX7_bestTurn_53 : decode cX7_bestTurn 53 = .ok (.if_icmp .eq 9, 3) := by decide +kernel
theorem dX7_bestTurn_56 : decode cX7_bestTurn 56 = .ok (.iload 5, 2) := by decide +kernel
theorem dX7_bestTurn_58 : decode cX7_bestTurn 58 = .ok (.iload_n 3, 1) := by decide +kernel
theorem dX7_bestTurn_59 : decode cX7_bestTurn 59 = .ok (.if_icmp .le 8, 3) := by decide +kernel
theorem dX7_bestTurn_62 : decode cX7_bestTurn 62 = .ok (.iload 5, 2) := by decide +kernel
theorem dX7_bestTurn_64 : decode cX7_bestTurn 64 = .ok (.goto 4, 3) := by decide +kernel
theorem dX7_bestTurn_67 : decode cX7_bestTurn 67 = .ok (.iload_n 3, 1) := by decide +kernel
theorem dX7_bestTurn_68 : decode cX7_bestTurn 68 = .ok (.istore_n 3, 1) := by decide +kernel
theorem dX7_bestTurn_69 : decode cX7_bestTurn 69 = .ok (.iinc 4 (-1), 3) := by decide +kernel
theorem dX7_bestTurn_72 : decode cX7_bestTurn 72 = .ok (.goto (-63), 3) := by decide +kernel
theorem dX7_bestTurn_75 : decode cX7_bestTurn 75 = .ok (.iload_n 2, 1) := by decide +kernel
theorem dX7_bestTurn_76 : decode cX7_bestTurn 76 = .ok (.ireturn, 1) := by decide +kernel
theorem dX7_rests_0 : decode cX7_rests 0 = .ok (.iload_n 1, 1) := by decide +kernel
theorem dX7_rests_1 : decode cX7_rests 1 = .ok (.iconst (-1), 1) := by decide +kernel
theorem dX7_rests_2 : decode cX7_rests 2 = .ok (.aload_n 0, 1) := by decide +kernel
theorem dX7_rests_3 : decode cX7_rests 3 = .ok (.getfield 13, 3) := by decide +kernel
theorem dX7_rests_6 : decode cX7_rests 6 = .ok (.iconst 1, 1) := by decide +kernel
theorem dX7_rests_7 : decode cX7_rests 7 = .ok (.iaload, 1) := by decide +kernel
theorem dX7_rests_8 : decode cX7_rests 8 = .ok (.iconst 1, 1) := by decide +kernel
theorem dX7_rests_9 : decode cX7_rests 9 = .ok (.isub, 1) := by decide +kernel
theorem dX7_rests_10 : decode cX7_rests 10 = .ok (.invokestatic 61, 3) := by decide +kernel
theorem dX7_rests_13 : decode cX7_rests 13 = .ok (.ifCond .ne 6, 3) := by decide +kernel
theorem dX7_rests_16 : decode cX7_rests 16 = .ok (.ldc 161, 2) := by decide +kernel
theorem dX7_rests_18 : decode cX7_rests 18 = .ok (.ireturn, 1) := by decide +kernel
theorem dX7_rests_19 : decode cX7_rests 19 = .ok (.iconst 0, 1) := by decide +kernel
theorem dX7_rests_20 : decode cX7_rests 20 = .ok (.istore_n 2, 1) := by decide +kernel
theorem dX7_rests_21 : decode cX7_rests 21 = .ok (.iload_n 2, 1) := by decide +kernel
theorem dX7_rests_22 : decode cX7_rests 22 = .ok (.bipush 6, 2) := by decide +kernel
theorem dX7_rests_24 : decode cX7_rests 24 = .ok (.if_icmp .ge 17, 3) := by decide +kernel
theorem dX7_rests_27 : decode cX7_rests 27 = .ok (.aload_n 0, 1) := by decide +kernel
theorem dX7_rests_28 : decode cX7_rests 28 = .ok (.getfield 51, 3) := by decide +kernel
theorem dX7_rests_31 : decode cX7_rests 31 = .ok (.iload_n 2, 1) := by decide +kernel
theorem dX7_rests_32 : decode cX7_rests 32 = .ok (.bipush 6, 2) := by decide +kernel
theorem dX7_rests_34 : decode cX7_rests 34 = .ok (.iastore, 1) := by decide +kernel
theorem dX7_rests_35 : decode cX7_rests 35 = .ok (.iinc 2 1, 3) := by decide +kernel
theorem dX7_rests_38 : decode cX7_rests 38 = .ok (.goto (-17), 3) := by decide +kernel
theorem dX7_rests_41 : decode cX7_rests 41 = .ok (.iconst 0, 1) := by decide +kernel
theorem dX7_rests_42 : decode cX7_rests 42 = .ok (.istore_n 2, 1) := by decide +kernel
theorem dX7_rests_43 : decode cX7_rests 43 = .ok (.aload_n 0, 1) := by decide +kernel
theorem dX7_rests_44 : decode cX7_rests 44 = .ok (.getfield 19, 3) := by decide +kernel
theorem dX7_rests_47 : decode cX7_rests 47 = .ok (.bipush 31, 2) := by decide +kernel
theorem dX7_rests_49 : decode cX7_rests 49 = .ok (.iaload, 1) := by decide +kernel
theorem dX7_rests_50 : decode cX7_rests 50 = .ok (.iconst (-1), 1) := by decide +kernel
theorem dX7_rests_51 : decode cX7_rests 51 = .ok (.if_icmp .ne 7, 3) := by decide +kernel
theorem dX7_rests_54 : decode cX7_rests 54 = .ok (.iconst 1, 1) := by decide +kernel
theorem dX7_rests_55 : decode cX7_rests 55 = .ok (.goto 4, 3) := by decide +kernel
theorem dX7_rests_58 : decode cX7_rests 58 = .ok (.iconst 0, 1) := by decide +kernel
theorem dX7_rests_59 : decode cX7_rests 59 = .ok (.istore_n 3, 1) := by decide +kernel
theorem dX7_rests_60 : decode cX7_rests 60 = .ok (.iload_n 3, 1) := by decide +kernel
theorem dX7_rests_61 : decode cX7_rests 61 = .ok (.ifCond .eq 90, 3) := by decide +kernel
theorem dX7_rests_64 : decode cX7_rests 64 = .ok (.iload_n 2, 1) := by decide +kernel
theorem dX7_rests_65 : decode cX7_rests 65 = .ok (.bipush 20, 2) := by decide +kernel
theorem dX7_rests_67 : decode cX7_rests 67 = .ok (.if_icmp .ge 84, 3) := by decide +kernel
theorem dX7_rests_70 : decode cX7_rests 70 = .ok (.iconst 0, 1) := by decide +kernel
theorem dX7_rests_71 : decode cX7_rests 71 = .ok (.istore_n 3, 1) := by decide +kernel
theorem dX7_rests_72 : decode cX7_rests 72 = .ok (.iconst 0, 1) := by decide +kernel
theorem dX7_rests_73 : decode cX7_rests 73 = .ok (.istore 4, 2) := by decide +kernel
theorem dX7_rests_75 : decode cX7_rests 75 = .ok (.iload 4, 2) := by decide +kernel
theorem dX7_rests_77 : decode cX7_rests 77 = .ok (.aload_n 0, 1) := by decide +kernel
theorem dX7_rests_78 : decode cX7_rests 78 = .ok (.getfield 13, 3) := by decide +kernel
theorem dX7_rests_81 : decode cX7_rests 81 = .ok (.iconst 1, 1) := by decide +kernel
theorem dX7_rests_82 : decode cX7_rests 82 = .ok (.iaload, 1) := by decide +kernel
theorem dX7_rests_83 : decode cX7_rests 83 = .ok (.if_icmp .ge 53, 3) := by decide +kernel
theorem dX7_rests_86 : decode cX7_rests 86 = .ok (.aload_n 0, 1) := by decide +kernel
theorem dX7_rests_87 : decode cX7_rests 87 = .ok (.getfield 51, 3) := by decide +kernel
theorem dX7_rests_90 : decode cX7_rests 90 = .ok (.iload 4, 2) := by decide +kernel
theorem dX7_rests_92 : decode cX7_rests 92 = .ok (.iaload, 1) := by decide +kernel
theorem dX7_rests_93 : decode cX7_rests 93 = .ok (.istore 5, 2) := by decide +kernel
theorem dX7_rests_95 : decode cX7_rests 95 = .ok (.aload_n 0, 1) := by decide +kernel
theorem dX7_rests_96 : decode cX7_rests 96 = .ok (.getfield 51, 3) := by decide +kernel
theorem dX7_rests_99 : decode cX7_rests 99 = .ok (.iload 4, 2) := by decide +kernel
theorem dX7_rests_101 : decode cX7_rests 101 = .ok (.aload_n 0, 1) := by decide +kernel
theorem dX7_rests_102 : decode cX7_rests 102 = .ok (.iload 4, 2) := by decide +kernel
theorem dX7_rests_104 : decode cX7_rests 104 = .ok (.invokevirtual 216, 3) := by decide +kernel
theorem dX7_rests_107 : decode cX7_rests 107 = .ok (.iastore, 1) := by decide +kernel
theorem dX7_rests_108 : decode cX7_rests 108 = .ok (.iload_n 3, 1) := by decide +kernel
theorem dX7_rests_109 : decode cX7_rests 109 = .ok (.ifCond .ne 15, 3) := by decide +kernel
theorem dX7_rests_112 : decode cX7_rests 112 = .ok (.aload_n 0, 1) := by decide +kernel
theorem dX7_rests_113 : decode cX7_rests 113 = .ok (.getfield 51, 3) := by decide +kernel
theorem dX7_rests_116 : decode cX7_rests 116 = .ok (.iload 4, 2) := by decide +kernel
theorem dX7_rests_118 : decode cX7_rests 118 = .ok (.iaload, 1) := by decide +kernel
theorem dX7_rests_119 : decode cX7_rests 119 = .ok (.iload 5, 2) := by decide +kernel
theorem dX7_rests_121 : decode cX7_rests 121 = .ok (.if_icmp .eq 7, 3) := by decide +kernel
theorem dX7_rests_124 : decode cX7_rests 124 = .ok (.iconst 1, 1) := by decide +kernel
theorem dX7_rests_125 : decode cX7_rests 125 = .ok (.goto 4, 3) := by decide +kernel
theorem dX7_rests_128 : decode cX7_rests 128 = .ok (.iconst 0, 1) := by decide +kernel
theorem dX7_rests_129 : decode cX7_rests 129 = .ok (.istore_n 3, 1) := by decide +kernel
theorem dX7_rests_130 : decode cX7_rests 130 = .ok (.iinc 4 1, 3) := by decide +kernel
theorem dX7_rests_133 : decode cX7_rests 133 = .ok (.goto (-58), 3) := by decide +kernel
theorem dX7_rests_136 : decode cX7_rests 136 = .ok (.iload_n 2, 1) := by decide +kernel
theorem dX7_rests_137 : decode cX7_rests 137 = .ok (.iload_n 3, 1) := by decide +kernel
theorem dX7_rests_138 : decode cX7_rests 138 = .ok (.ifCond .eq 7, 3) := by decide +kernel
theorem dX7_rests_141 : decode cX7_rests 141 = .ok (.iconst 1, 1) := by decide +kernel
theorem dX7_rests_142 : decode cX7_rests 142 = .ok (.goto 4, 3) := by decide +kernel
theorem dX7_rests_145 : decode cX7_rests 145 = .ok (.iconst 0, 1) := by decide +kernel
theorem dX7_rests_146 : decode cX7_rests 146 = .ok (.iadd, 1) := by decide +kernel
theorem dX7_rests_147 : decode cX7_rests 147 = .ok (.istore_n 2, 1) := by decide +kernel
theorem dX7_rests_148 : decode cX7_rests 148 = .ok (.goto (-88), 3) := by decide +kernel
theorem dX7_rests_151 : decode cX7_rests 151 = .ok (.iload_n 3, 1) := by decide +kernel
theorem dX7_rests_152 : decode cX7_rests 152 = .ok (.ifCond .eq 5, 3) := by decide +kernel
theorem dX7_rests_155 : decode cX7_rests 155 = .ok (.iconst (-1), 1) := by decide +kernel
theorem dX7_rests_156 : decode cX7_rests 156 = .ok (.ireturn, 1) := by decide +kernel
theorem dX7_rests_157 : decode cX7_rests 157 = .ok (.iload_n 1, 1) := by decide +kernel
theorem dX7_rests_158 : decode cX7_rests 158 = .ok (.iconst (-1), 1) := by decide +kernel
theorem dX7_rests_159 : decode cX7_rests 159 = .ok (.if_icmp .ne 7, 3) := by decide +kernel
theorem dX7_rests_162 : decode cX7_rests 162 = .ok (.iload_n 2, 1) := by decide +kernel
theorem dX7_rests_163 : decode cX7_rests 163 = .ok (.goto 24, 3) := by decide +kernel
theorem dX7_rests_166 : decode cX7_rests 166 = .ok (.aload_n 0, 1) := by decide +kernel
theorem dX7_rests_167 : decode cX7_rests 167 = .ok (.getfield 51, 3) := by decide +kernel
theorem dX7_rests_170 : decode cX7_rests 170 = .ok (.iload_n 1, 1) := by decide +kernel
theorem dX7_rests_171 : decode cX7_rests 171 = .ok (.iaload, 1) := by decide +kernel
theorem dX7_rests_172 : decode cX7_rests 172 = .ok (.bipush 6, 2) := by decide +kernel
theorem dX7_rests_174 : decode cX7_rests 174 = .ok (.if_icmp .ne 7, 3) := by decide +kernel
theorem dX7_rests_177 : decode cX7_rests 177 = .ok (.iconst (-1), 1) := by decide +kernel
theorem dX7_rests_178 : decode cX7_rests 178 = .ok (.goto 9, 3) := by decide +kernel
theorem dX7_rests_181 : decode cX7_rests 181 = .ok (.aload_n 0, 1) := by decide +kernel
theorem dX7_rests_182 : decode cX7_rests 182 = .ok (.getfield 51, 3) := by decide +kernel
theorem dX7_rests_185 : decode cX7_rests 185 = .ok (.iload_n 1, 1) := by decide +kernel
theorem dX7_rests_186 : decode cX7_rests 186 = .ok (.iaload, 1) := by decide +kernel
theorem dX7_rests_187 : decode cX7_rests 187 = .ok (.ireturn, 1) := by decide +kernel
theorem dX7_tower_0 : decode cX7_tower 0 = .ok (.aload_n 0, 1) := by decide +kernel
theorem dX7_tower_1 : decode cX7_tower 1 = .ok (.iload_n 1, 1) := by decide +kernel
theorem dX7_tower_2 : decode cX7_tower 2 = .ok (.invokevirtual 169, 3) := by decide +kernel
theorem dX7_tower_5 : decode cX7_tower 5 = .ok (.ifCond .eq 16, 3) := by decide +kernel
theorem dX7_tower_8 : decode cX7_tower 8 = .ok (.aload_n 0, 1) := by decide +kernel
theorem dX7_tower_9 : decode cX7_tower 9 = .ok (.iload_n 2, 1) := by decide +kernel
theorem dX7_tower_10 : decode cX7_tower 10 = .ok (.invokevirtual 169, 3) := by decide +kernel
theorem dX7_tower_13 : decode cX7_tower 13 = .ok (.ifCond .eq 8, 3) := by decide +kernel
theorem dX7_tower_16 : decode cX7_tower 16 = .ok (.iload_n 1, 1) := by decide +kernel
theorem dX7_tower_17 : decode cX7_tower 17 = .ok (.iload_n 2, 1) := by decide +kernel
theorem dX7_tower_18 : decode cX7_tower 18 = .ok (.if_icmp .ne 6, 3) := by decide +kernel
theorem dX7_tower_21 : decode cX7_tower 21 = .ok (.ldc 161, 2) := by decide +kernel
theorem dX7_tower_23 : decode cX7_tower 23 = .ok (.ireturn, 1) := by decide +kernel
theorem dX7_tower_24 : decode cX7_tower 24 = .ok (.aload_n 0, 1) := by decide +kernel
theorem dX7_tower_25 : decode cX7_tower 25 = .ok (.getfield 13, 3) := by decide +kernel
theorem dX7_tower_28 : decode cX7_tower 28 = .ok (.iconst 0, 1) := by decide +kernel
theorem dX7_tower_29 : decode cX7_tower 29 = .ok (.iaload, 1) := by decide +kernel
theorem dX7_tower_30 : decode cX7_tower 30 = .ok (.ifCond .ne 6, 3) := by decide +kernel
theorem dX7_tower_33 : decode cX7_tower 33 = .ok (.ldc 175, 2) := by decide +kernel
theorem dX7_tower_35 : decode cX7_tower 35 = .ok (.ireturn, 1) := by decide +kernel
theorem dX7_tower_36 : decode cX7_tower 36 = .ok (.aload_n 0, 1) := by decide +kernel
theorem dX7_tower_37 : decode cX7_tower 37 = .ok (.invokevirtual 172, 3) := by decide +kernel
theorem dX7_tower_40 : decode cX7_tower 40 = .ok (.aload_n 0, 1) := by decide +kernel
theorem dX7_tower_41 : decode cX7_tower 41 = .ok (.getfield 13, 3) := by decide +kernel
theorem dX7_tower_44 : decode cX7_tower 44 = .ok (.bipush 12, 2) := by decide +kernel
theorem dX7_tower_46 : decode cX7_tower 46 = .ok (.iload_n 1, 1) := by decide +kernel
theorem dX7_tower_47 : decode cX7_tower 47 = .ok (.iadd, 1) := by decide +kernel
theorem dX7_tower_48 : decode cX7_tower 48 = .ok (.iaload, 1) := by decide +kernel
theorem dX7_tower_49 : decode cX7_tower 49 = .ok (.iconst 2, 1) := by decide +kernel
theorem dX7_tower_50 : decode cX7_tower 50 = .ok (.aload_n 0, 1) := by decide +kernel
theorem dX7_tower_51 : decode cX7_tower 51 = .ok (.getfield 13, 3) := by decide +kernel
theorem dX7_tower_54 : decode cX7_tower 54 = .ok (.bipush 6, 2) := by decide +kernel
theorem dX7_tower_56 : decode cX7_tower 56 = .ok (.iload_n 2, 1) := by decide +kernel
theorem dX7_tower_57 : decode cX7_tower 57 = .ok (.iadd, 1) := by decide +kernel
theorem dX7_tower_58 : decode cX7_tower 58 = .ok (.iaload, 1) := by decide +kernel
theorem dX7_tower_59 : decode cX7_tower 59 = .ok (.imul, 1) := by decide +kernel
theorem dX7_tower_60 : decode cX7_tower 60 = .ok (.if_icmp .ge 7, 3) := by decide +kernel
theorem dX7_tower_63 : decode cX7_tower 63 = .ok (.iconst (-1), 1) := by decide +kernel
theorem dX7_tower_64 : decode cX7_tower 64 = .ok (.goto 24, 3) := by decide +kernel
theorem dX7_tower_67 : decode cX7_tower 67 = .ok (.aload_n 0, 1) := by decide +kernel
theorem dX7_tower_68 : decode cX7_tower 68 = .ok (.iload_n 2, 1) := by decide +kernel
theorem dX7_tower_69 : decode cX7_tower 69 = .ok (.aload_n 0, 1) := by decide +kernel
theorem dX7_tower_70 : decode cX7_tower 70 = .ok (.getfield 13, 3) := by decide +kernel
theorem dX7_tower_73 : decode cX7_tower 73 = .ok (.iconst 0, 1) := by decide +kernel
theorem dX7_tower_74 : decode cX7_tower 74 = .ok (.iaload, 1) := by decide +kernel
theorem dX7_tower_75 : decode cX7_tower 75 = .ok (.iconst 5, 1) := by decide +kernel
theorem dX7_tower_76 : decode cX7_tower 76 = .ok (.if_icmp .gt 7, 3) := by decide +kernel
theorem dX7_tower_79 : decode cX7_tower 79 = .ok (.iconst 0, 1) := by decide +kernel
theorem dX7_tower_80 : decode cX7_tower 80 = .ok (.goto 4, 3) := by decide +kernel
theorem dX7_tower_83 : decode cX7_tower 83 = .ok (.iconst 5, 1) := by decide +kernel
theorem dX7_tower_84 : decode cX7_tower 84 = .ok (.iconst 0, 1) := by decide +kernel
theorem dX7_tower_85 : decode cX7_tower 85 = .ok (.invokevirtual 165, 3) := by decide +kernel
theorem dX7_tower_88 : decode cX7_tower 88 = .ok (.ireturn, 1) := by decide +kernel
theorem dX7_list_0 : decode cX7_list 0 = .ok (.aload_n 0, 1) := by decide +kernel
theorem dX7_list_1 : decode cX7_list 1 = .ok (.iload_n 1, 1) := by decide +kernel
theorem dX7_list_2 : decode cX7_list 2 = .ok (.invokevirtual 169, 3) := by decide +kernel
theorem dX7_list_5 : decode cX7_list 5 = .ok (.ifCond .ne 6, 3) := by decide +kernel
theorem dX7_list_8 : decode cX7_list 8 = .ok (.ldc 161, 2) := by decide +kernel
theorem dX7_list_10 : decode cX7_list 10 = .ok (.ireturn, 1) := by decide +kernel
theorem dX7_list_11 : decode cX7_list 11 = .ok (.iload_n 2, 1) := by decide +kernel
theorem dX7_list_12 : decode cX7_list 12 = .ok (.iconst 0, 1) := by decide +kernel
theorem dX7_list_13 : decode cX7_list 13 = .ok (.bipush 30, 2) := by decide +kernel
theorem dX7_list_15 : decode cX7_list 15 = .ok (.invokestatic 61, 3) := by decide +kernel
theorem dX7_list_18 : decode cX7_list 18 = .ok (.ifCond .ne 6, 3) := by decide +kernel
theorem dX7_list_21 : decode cX7_list 21 = .ok (.ldc 65, 2) := by decide +kernel
theorem dX7_list_23 : decode cX7_list 23 = .ok (.ireturn, 1) := by decide +kernel
theorem dX7_list_24 : decode cX7_list 24 = .ok (.aload_n 0, 1) := by decide +kernel
theorem dX7_list_25 : decode cX7_list 25 = .ok (.getfield 151, 3) := by decide +kernel
theorem dX7_list_28 : decode cX7_list 28 = .ok (.bipush 12, 2) := by decide +kernel
theorem dX7_list_30 : decode cX7_list 30 = .ok (.if_icmp .ne 6, 3) := by decide +kernel
theorem dX7_list_33 : decode cX7_list 33 = .ok (.ldc 69, 2) := by decide +kernel
theorem dX7_list_35 : decode cX7_list 35 = .ok (.ireturn, 1) := by decide +kernel
theorem dX7_list_36 : decode cX7_list 36 = .ok (.aload_n 0, 1) := by decide +kernel
theorem dX7_list_37 : decode cX7_list 37 = .ok (.getfield 35, 3) := by decide +kernel
theorem dX7_list_40 : decode cX7_list 40 = .ok (.aload_n 0, 1) := by decide +kernel
theorem dX7_list_41 : decode cX7_list 41 = .ok (.getfield 151, 3) := by decide +kernel
theorem dX7_list_44 : decode cX7_list 44 = .ok (.iload_n 1, 1) := by decide +kernel
theorem dX7_list_45 : decode cX7_list 45 = .ok (.iastore, 1) := by decide +kernel
theorem dX7_list_46 : decode cX7_list 46 = .ok (.aload_n 0, 1) := by decide +kernel
theorem dX7_list_47 : decode cX7_list 47 = .ok (.getfield 38, 3) := by decide +kernel
theorem dX7_list_50 : decode cX7_list 50 = .ok (.aload_n 0, 1) := by decide +kernel
theorem dX7_list_51 : decode cX7_list 51 = .ok (.getfield 151, 3) := by decide +kernel
theorem dX7_list_54 : decode cX7_list 54 = .ok (.iload_n 2, 1) := by decide +kernel
theorem dX7_list_55 : decode cX7_list 55 = .ok (.iastore, 1) := by decide +kernel
theorem dX7_list_56 : decode cX7_list 56 = .ok (.aload_n 0, 1) := by decide +kernel
theorem dX7_list_57 : decode cX7_list 57 = .ok (.dup, 1) := by decide +kernel
theorem dX7_list_58 : decode cX7_list 58 = .ok (.getfield 151, 3) := by decide +kernel
theorem dX7_list_61 : decode cX7_list 61 = .ok (.iconst 1, 1) := by decide +kernel
theorem dX7_list_62 : decode cX7_list 62 = .ok (.iadd, 1) := by decide +kernel
theorem dX7_list_63 : decode cX7_list 63 = .ok (.putfield 151, 3) := by decide +kernel
theorem dX7_list_66 : decode cX7_list 66 = .ok (.aload_n 0, 1) := by decide +kernel
theorem dX7_list_67 : decode cX7_list 67 = .ok (.getfield 151, 3) := by decide +kernel
theorem dX7_list_70 : decode cX7_list 70 = .ok (.ireturn, 1) := by decide +kernel
theorem dX7_tear_0 : decode cX7_tear 0 = .ok (.aload_n 0, 1) := by decide +kernel
theorem dX7_tear_1 : decode cX7_tear 1 = .ok (.getfield 151, 3) := by decide +kernel
theorem dX7_tear_4 : decode cX7_tear 4 = .ok (.istore_n 1, 1) := by decide +kernel
theorem dX7_tear_5 : decode cX7_tear 5 = .ok (.aload_n 0, 1) := by decide +kernel
theorem dX7_tear_6 : decode cX7_tear 6 = .ok (.iconst 0, 1) := by decide +kernel
theorem dX7_tear_7 : decode cX7_tear 7 = .ok (.putfield 151, 3) := by decide +kernel
theorem dX7_tear_10 : decode cX7_tear 10 = .ok (.iload_n 1, 1) := by decide +kernel
theorem dX7_tear_11 : decode cX7_tear 11 = .ok (.ireturn, 1) := by decide +kernel
theorem dX7_enough_0 : decode cX7_enough 0 = .ok (.iload_n 1, 1) := by decide +kernel
theorem dX7_enough_1 : decode cX7_enough 1 = .ok (.iconst 0, 1) := by decide +kernel
theorem dX7_enough_2 : decode cX7_enough 2 = .ok (.bipush 11, 2) := by decide +kernel
theorem dX7_enough_4 : decode cX7_enough 4 = .ok (.invokestatic 61, 3) := by decide +kernel
theorem dX7_enough_7 : decode cX7_enough 7 = .ok (.ifCond .ne 6, 3) := by decide +kernel
theorem dX7_enough_10 : decode cX7_enough 10 = .ok (.ldc 65, 2) := by decide +kernel
theorem dX7_enough_12 : decode cX7_enough 12 = .ok (.ireturn, 1) := by decide +kernel
theorem dX7_enough_13 : decode cX7_enough 13 = .ok (.iconst 0, 1) := by decide +kernel
theorem dX7_enough_14 : decode cX7_enough 14 = .ok (.istore_n 2, 1) := by decide +kernel
theorem dX7_enough_15 : decode cX7_enough 15 = .ok (.iload_n 2, 1) := by decide +kernel
theorem dX7_enough_16 : decode cX7_enough 16 = .ok (.bipush 99, 2) := by decide +kernel
theorem dX7_enough_18 : decode cX7_enough 18 = .ok (.if_icmp .gt 114, 3) := by decide +kernel
theorem dX7_enough_21 : decode cX7_enough 21 = .ok (.iload_n 1, 1) := by decide +kernel
theorem dX7_enough_22 : decode cX7_enough 22 = .ok (.aload_n 0, 1) := by decide +kernel
theorem dX7_enough_23 : decode cX7_enough 23 = .ok (.getfield 151, 3) := by decide +kernel
theorem dX7_enough_26 : decode cX7_enough 26 = .ok (.if_icmp .ge 106, 3) := by decide +kernel
theorem dX7_enough_29 : decode cX7_enough 29 = .ok (.aload_n 0, 1) := by decide +kernel
theorem dX7_enough_30 : decode cX7_enough 30 = .ok (.getfield 19, 3) := by decide +kernel
theorem dX7_enough_33 : decode cX7_enough 33 = .ok (.bipush 31, 2) := by decide +kernel
theorem dX7_enough_35 : decode cX7_enough 35 = .ok (.iaload, 1) := by decide +kernel
theorem dX7_enough_36 : decode cX7_enough 36 = .ok (.iconst (-1), 1) := by decide +kernel
theorem dX7_enough_37 : decode cX7_enough 37 = .ok (.if_icmp .ne 95, 3) := by decide +kernel
theorem dX7_enough_40 : decode cX7_enough 40 = .ok (.aload_n 0, 1) := by decide +kernel
theorem dX7_enough_41 : decode cX7_enough 41 = .ok (.invokevirtual 172, 3) := by decide +kernel
theorem dX7_enough_44 : decode cX7_enough 44 = .ok (.iconst 0, 1) := by decide +kernel
theorem dX7_enough_45 : decode cX7_enough 45 = .ok (.istore_n 3, 1) := by decide +kernel
theorem dX7_enough_46 : decode cX7_enough 46 = .ok (.iload_n 3, 1) := by decide +kernel
theorem dX7_enough_47 : decode cX7_enough 47 = .ok (.aload_n 0, 1) := by decide +kernel
theorem dX7_enough_48 : decode cX7_enough 48 = .ok (.getfield 13, 3) := by decide +kernel
theorem dX7_enough_51 : decode cX7_enough 51 = .ok (.iconst 0, 1) := by decide +kernel
theorem dX7_enough_52 : decode cX7_enough 52 = .ok (.iaload, 1) := by decide +kernel
theorem dX7_enough_53 : decode cX7_enough 53 = .ok (.if_icmp .ge 16, 3) := by decide +kernel
theorem dX7_enough_56 : decode cX7_enough 56 = .ok (.aload_n 0, 1) := by decide +kernel
theorem dX7_enough_57 : decode cX7_enough 57 = .ok (.getfield 22, 3) := by decide +kernel
theorem dX7_enough_60 : decode cX7_enough 60 = .ok (.iload_n 3, 1) := by decide +kernel
theorem dX7_enough_61 : decode cX7_enough 61 = .ok (.iload_n 2, 1) := by decide +kernel
theorem dX7_enough_62 : decode cX7_enough 62 = .ok (.iastore, 1) := by decide +kernel
theorem dX7_enough_63 : decode cX7_enough 63 = .ok (.iinc 3 1, 3) := by decide +kernel
theorem dX7_enough_66 : decode cX7_enough 66 = .ok (.goto (-20), 3) := by decide +kernel
theorem dX7_enough_69 : decode cX7_enough 69 = .ok (.iconst 0, 1) := by decide +kernel
theorem dX7_enough_70 : decode cX7_enough 70 = .ok (.istore_n 3, 1) := by decide +kernel
theorem dX7_enough_71 : decode cX7_enough 71 = .ok (.iload_n 3, 1) := by decide +kernel
theorem dX7_enough_72 : decode cX7_enough 72 = .ok (.iload_n 1, 1) := by decide +kernel
theorem dX7_enough_73 : decode cX7_enough 73 = .ok (.if_icmp .gt 33, 3) := by decide +kernel
theorem dX7_enough_76 : decode cX7_enough 76 = .ok (.aload_n 0, 1) := by decide +kernel
theorem dX7_enough_77 : decode cX7_enough 77 = .ok (.getfield 22, 3) := by decide +kernel
theorem dX7_enough_80 : decode cX7_enough 80 = .ok (.bipush 31, 2) := by decide +kernel
theorem dX7_enough_82 : decode cX7_enough 82 = .ok (.iaload, 1) := by decide +kernel
theorem dX7_enough_83 : decode cX7_enough 83 = .ok (.iconst (-1), 1) := by decide +kernel
theorem dX7_enough_84 : decode cX7_enough 84 = .ok (.if_icmp .ne 22, 3) := by decide +kernel
theorem dX7_enough_87 : decode cX7_enough 87 = .ok (.aload_n 0, 1) := by decide +kernel
theorem dX7_enough_88 : decode cX7_enough 88 = .ok (.aload_n 0, 1) := by decide +kernel
theorem dX7_enough_89 : decode cX7_enough 89 = .ok (.getfield 35, 3) := by decide +kernel
theorem dX7_enough_92 : decode cX7_enough 92 = .ok (.iload_n 3, 1) := by decide +kernel
theorem dX7_enough_93 : decode cX7_enough 93 = .ok (.iaload, 1) := by decide +kernel
theorem dX7_enough_94 : decode cX7_enough 94 = .ok (.iconst 0, 1) := by decide +kernel
theorem dX7_enough_95 : decode cX7_enough 95 = .ok (.invokevirtual 176, 3) := by decide +kernel
theorem dX7_enough_98 : decode cX7_enough 98 = .ok (.istore 4, 2) := by decide +kernel
theorem dX7_enough_100 : decode cX7_enough 100 = .ok (.iinc 3 1, 3) := by decide +kernel
theorem dX7_enough_103 : decode cX7_enough 103 = .ok (.goto (-32), 3) := by decide +kernel
theorem dX7_enough_106 : decode cX7_enough 106 = .ok (.aload_n 0, 1) := by decide +kernel
theorem dX7_enough_107 : decode cX7_enough 107 = .ok (.getfield 22, 3) := by decide +kernel
theorem dX7_enough_110 : decode cX7_enough 110 = .ok (.bipush 31, 2) := by decide +kernel
theorem dX7_enough_112 : decode cX7_enough 112 = .ok (.iaload, 1) := by decide +kernel
theorem dX7_enough_113 : decode cX7_enough 113 = .ok (.iconst (-1), 1) := by decide +kernel
theorem dX7_enough_114 : decode cX7_enough 114 = .ok (.if_icmp .eq 12, 3) := by decide +kernel
theorem dX7_enough_117 : decode cX7_enough 117 = .ok (.iload_n 3, 1) := by decide +kernel
theorem dX7_enough_118 : decode cX7_enough 118 = .ok (.iload_n 1, 1) := by decide +kernel
theorem dX7_enough_119 : decode cX7_enough 119 = .ok (.iconst 1, 1) := by decide +kernel
theorem dX7_enough_120 : decode cX7_enough 120 = .ok (.iadd, 1) := by decide +kernel
theorem dX7_enough_121 : decode cX7_enough 121 = .ok (.if_icmp .ne 5, 3) := by decide +kernel
theorem dX7_enough_124 : decode cX7_enough 124 = .ok (.iload_n 2, 1) := by decide +kernel
theorem dX7_enough_125 : decode cX7_enough 125 = .ok (.ireturn, 1) := by decide +kernel
theorem dX7_enough_126 : decode cX7_enough 126 = .ok (.iinc 2 1, 3) := by decide +kernel
theorem dX7_enough_129 : decode cX7_enough 129 = .ok (.goto (-114), 3) := by decide +kernel
theorem dX7_enough_132 : decode cX7_enough 132 = .ok (.iconst (-1), 1) := by decide +kernel
theorem dX7_enough_133 : decode cX7_enough 133 = .ok (.ireturn, 1) := by decide +kernel
theorem dX7_wrongOf_0 : decode cX7_wrongOf 0 = .ok (.aload_n 0, 1) := by decide +kernel
theorem dX7_wrongOf_1 : decode cX7_wrongOf 1 = .ok (.invokevirtual 172, 3) := by decide +kernel
theorem dX7_wrongOf_4 : decode cX7_wrongOf 4 = .ok (.iconst 0, 1) := by decide +kernel
theorem dX7_wrongOf_5 : decode cX7_wrongOf 5 = .ok (.istore_n 2, 1) := by decide +kernel
theorem dX7_wrongOf_6 : decode cX7_wrongOf 6 = .ok (.iload_n 2, 1) := by decide +kernel
theorem dX7_wrongOf_7 : decode cX7_wrongOf 7 = .ok (.aload_n 0, 1) := by decide +kernel
theorem dX7_wrongOf_8 : decode cX7_wrongOf 8 = .ok (.getfield 151, 3) := by decide +kernel
theorem dX7_wrongOf_11 : decode cX7_wrongOf 11 = .ok (.if_icmp .ge 45, 3) := by decide +kernel
theorem dX7_wrongOf_14 : decode cX7_wrongOf 14 = .ok (.aload_n 0, 1) := by decide +kernel
theorem dX7_wrongOf_15 : decode cX7_wrongOf 15 = .ok (.aload_n 0, 1) := by decide +kernel
theorem dX7_wrongOf_16 : decode cX7_wrongOf 16 = .ok (.getfield 35, 3) := by decide +kernel
theorem dX7_wrongOf_19 : decode cX7_wrongOf 19 = .ok (.iload_n 2, 1) := by decide +kernel
theorem dX7_wrongOf_20 : decode cX7_wrongOf 20 = .ok (.iaload, 1) := by decide +kernel
theorem dX7_wrongOf_21 : decode cX7_wrongOf 21 = .ok (.aload_n 0, 1) := by decide +kernel
theorem dX7_wrongOf_22 : decode cX7_wrongOf 22 = .ok (.getfield 35, 3) := by decide +kernel
theorem dX7_wrongOf_25 : decode cX7_wrongOf 25 = .ok (.iload_n 2, 1) := by decide +kernel
theorem dX7_wrongOf_26 : decode cX7_wrongOf 26 = .ok (.iaload, 1) := by decide +kernel
theorem dX7_wrongOf_27 : decode cX7_wrongOf 27 = .ok (.iload_n 1, 1) := by decide +kernel
theorem dX7_wrongOf_28 : decode cX7_wrongOf 28 = .ok (.if_icmp .ne 7, 3) := by decide +kernel
theorem dX7_wrongOf_31 : decode cX7_wrongOf 31 = .ok (.iconst 1, 1) := by decide +kernel
theorem dX7_wrongOf_32 : decode cX7_wrongOf 32 = .ok (.goto 4, 3) := by decide +kernel
theorem dX7_wrongOf_35 : decode cX7_wrongOf 35 = .ok (.iconst 0, 1) := by decide +kernel
theorem dX7_wrongOf_36 : decode cX7_wrongOf 36 = .ok (.invokevirtual 176, 3) := by decide +kernel
theorem dX7_wrongOf_39 : decode cX7_wrongOf 39 = .ok (.aload_n 0, 1) := by decide +kernel
theorem dX7_wrongOf_40 : decode cX7_wrongOf 40 = .ok (.getfield 38, 3) := by decide +kernel
theorem dX7_wrongOf_43 : decode cX7_wrongOf 43 = .ok (.iload_n 2, 1) := by decide +kernel
theorem dX7_wrongOf_44 : decode cX7_wrongOf 44 = .ok (.iaload, 1) := by decide +kernel
theorem dX7_wrongOf_45 : decode cX7_wrongOf 45 = .ok (.if_icmp .eq 5, 3) := by decide +kernel
theorem dX7_wrongOf_48 : decode cX7_wrongOf 48 = .ok (.iload_n 2, 1) := by decide +kernel
theorem dX7_wrongOf_49 : decode cX7_wrongOf 49 = .ok (.ireturn, 1) := by decide +kernel
theorem dX7_wrongOf_50 : decode cX7_wrongOf 50 = .ok (.iinc 2 1, 3) := by decide +kernel
theorem dX7_wrongOf_53 : decode cX7_wrongOf 53 = .ok (.goto (-47), 3) := by decide +kernel
theorem dX7_wrongOf_56 : decode cX7_wrongOf 56 = .ok (.iconst (-1), 1) := by decide +kernel
theorem dX7_wrongOf_57 : decode cX7_wrongOf 57 = .ok (.ireturn, 1) := by decide +kernel
theorem dX7_judge_0 : decode cX7_judge 0 = .ok (.aload_n 0, 1) := by decide +kernel
theorem dX7_judge_1 : decode cX7_judge 1 = .ok (.iconst (-1), 1) := by decide +kernel
theorem dX7_judge_2 : decode cX7_judge 2 = .ok (.invokevirtual 219, 3) := by decide +kernel
theorem dX7_judge_5 : decode cX7_judge 5 = .ok (.ireturn, 1) := by decide +kernel
theorem dX7_sand_0 : decode cX7_sand 0 = .ok (.iconst 0, 1) := by decide +kernel
theorem dX7_sand_1 : decode cX7_sand 1 = .ok (.istore_n 1, 1) := by decide +kernel
theorem dX7_sand_2 : decode cX7_sand 2 = .ok (.iconst 0, 1) := by decide +kernel
theorem dX7_sand_3 : decode cX7_sand 3 = .ok (.istore_n 2, 1) := by decide +kernel
theorem dX7_sand_4 : decode cX7_sand 4 = .ok (.iload_n 2, 1) := by decide +kernel
theorem dX7_sand_5 : decode cX7_sand 5 = .ok (.aload_n 0, 1) := by decide +kernel
theorem dX7_sand_6 : decode cX7_sand 6 = .ok (.getfield 13, 3) := by decide +kernel
theorem dX7_sand_9 : decode cX7_sand 9 = .ok (.iconst 1, 1) := by decide +kernel
theorem dX7_sand_10 : decode cX7_sand 10 = .ok (.iaload, 1) := by decide +kernel
theorem dX7_sand_11 : decode cX7_sand 11 = .ok (.if_icmp .ge 28, 3) := by decide +kernel
theorem dX7_sand_14 : decode cX7_sand 14 = .ok (.iload_n 1, 1) := by decide +kernel
theorem dX7_sand_15 : decode cX7_sand 15 = .ok (.aload_n 0, 1) := by decide +kernel
theorem dX7_sand_16 : decode cX7_sand 16 = .ok (.iload_n 2, 1) := by decide +kernel
theorem dX7_sand_17 : decode cX7_sand 17 = .ok (.invokevirtual 219, 3) := by decide +kernel
theorem dX7_sand_20 : decode cX7_sand 20 = .ok (.iconst (-1), 1) := by decide +kernel
theorem dX7_sand_21 : decode cX7_sand 21 = .ok (.if_icmp .ne 9, 3) := by decide +kernel
theorem dX7_sand_24 : decode cX7_sand 24 = .ok (.iconst 1, 1) := by decide +kernel
theorem dX7_sand_25 : decode cX7_sand 25 = .ok (.iload_n 2, 1) := by decide +kernel
theorem dX7_sand_26 : decode cX7_sand 26 = .ok (.ishl, 1) := by decide +kernel
theorem dX7_sand_27 : decode cX7_sand 27 = .ok (.goto 4, 3) := by decide +kernel
theorem dX7_sand_30 : decode cX7_sand 30 = .ok (.iconst 0, 1) := by decide +kernel
theorem dX7_sand_31 : decode cX7_sand 31 = .ok (.ior, 1) := by decide +kernel
theorem dX7_sand_32 : decode cX7_sand 32 = .ok (.istore_n 1, 1) := by decide +kernel
theorem dX7_sand_33 : decode cX7_sand 33 = .ok (.iinc 2 1, 3) := by decide +kernel
theorem dX7_sand_36 : decode cX7_sand 36 = .ok (.goto (-32), 3) := by decide +kernel
theorem dX7_sand_39 : decode cX7_sand 39 = .ok (.iload_n 1, 1) := by decide +kernel
theorem dX7_sand_40 : decode cX7_sand 40 = .ok (.ireturn, 1) := by decide +kernel
theorem dX7_seed_0 : decode cX7_seed 0 = .ok (.iload_n 1, 1) := by decide +kernel
theorem dX7_seed_1 : decode cX7_seed 1 = .ok (.ifCond .ge 6, 3) := by decide +kernel
theorem dX7_seed_4 : decode cX7_seed 4 = .ok (.ldc 65, 2) := by decide +kernel
theorem dX7_seed_6 : decode cX7_seed 6 = .ok (.ireturn, 1) := by decide +kernel
theorem dX7_seed_7 : decode cX7_seed 7 = .ok (.aload_n 0, 1) := by decide +kernel
theorem dX7_seed_8 : decode cX7_seed 8 = .ok (.getfield 183, 3) := by decide +kernel
theorem dX7_seed_11 : decode cX7_seed 11 = .ok (.istore_n 2, 1) := by decide +kernel
theorem dX7_seed_12 : decode cX7_seed 12 = .ok (.aload_n 0, 1) := by decide +kernel
theorem dX7_seed_13 : decode cX7_seed 13 = .ok (.iload_n 1, 1) := by decide +kernel
theorem dX7_seed_14 : decode cX7_seed 14 = .ok (.putfield 183, 3) := by decide +kernel
theorem dX7_seed_17 : decode cX7_seed 17 = .ok (.iload_n 2, 1) := by decide +kernel
theorem dX7_seed_18 : decode cX7_seed 18 = .ok (.ireturn, 1) := by decide +kernel
theorem dX7_keep_0 : decode cX7_keep 0 = .ok (.iload_n 1, 1) := by decide +kernel
theorem dX7_keep_1 : decode cX7_keep 1 = .ok (.iconst 0, 1) := by decide +kernel
theorem dX7_keep_2 : decode cX7_keep 2 = .ok (.iconst 1, 1) := by decide +kernel
theorem dX7_keep_3 : decode cX7_keep 3 = .ok (.invokestatic 61, 3) := by decide +kernel
theorem dX7_keep_6 : decode cX7_keep 6 = .ok (.ifCond .ne 6, 3) := by decide +kernel
theorem dX7_keep_9 : decode cX7_keep 9 = .ok (.ldc 161, 2) := by decide +kernel
theorem dX7_keep_11 : decode cX7_keep 11 = .ok (.ireturn, 1) := by decide +kernel
theorem dX7_keep_12 : decode cX7_keep 12 = .ok (.iconst 0, 1) := by decide +kernel
theorem dX7_keep_13 : decode cX7_keep 13 = .ok (.istore_n 2, 1) := by decide +kernel
theorem dX7_keep_14 : decode cX7_keep 14 = .ok (.iload_n 2, 1) := by decide +kernel
theorem dX7_keep_15 : decode cX7_keep 15 = .ok (.bipush 32, 2) := by decide +kernel
theorem dX7_keep_17 : decode cX7_keep 17 = .ok (.if_icmp .ge 26, 3) := by decide +kernel
theorem dX7_keep_20 : decode cX7_keep 20 = .ok (.aload_n 0, 1) := by decide +kernel
theorem dX7_keep_21 : decode cX7_keep 21 = .ok (.getfield 25, 3) := by decide +kernel
theorem dX7_keep_24 : decode cX7_keep 24 = .ok (.bipush 32, 2) := by decide +kernel
theorem dX7_keep_26 : decode cX7_keep 26 = .ok (.iload_n 1, 1) := by decide +kernel
theorem dX7_keep_27 : decode cX7_keep 27 = .ok (.imul, 1) := by decide +kernel
theorem dX7_keep_28 : decode cX7_keep 28 = .ok (.iload_n 2, 1) := by decide +kernel
theorem dX7_keep_29 : decode cX7_keep 29 = .ok (.iadd, 1) := by decide +kernel
theorem dX7_keep_30 : decode cX7_keep 30 = .ok (.aload_n 0, 1) := by decide +kernel
theorem dX7_keep_31 : decode cX7_keep 31 = .ok (.getfield 19, 3) := by decide +kernel
theorem dX7_keep_34 : decode cX7_keep 34 = .ok (.iload_n 2, 1) := by decide +kernel
theorem dX7_keep_35 : decode cX7_keep 35 = .ok (.iaload, 1) := by decide +kernel
theorem dX7_keep_36 : decode cX7_keep 36 = .ok (.iastore, 1) := by decide +kernel
theorem dX7_keep_37 : decode cX7_keep 37 = .ok (.iinc 2 1, 3) := by decide +kernel
theorem dX7_keep_40 : decode cX7_keep 40 = .ok (.goto (-26), 3) := by decide +kernel
theorem dX7_keep_43 : decode cX7_keep 43 = .ok (.aload_n 0, 1) := by decide +kernel
theorem dX7_keep_44 : decode cX7_keep 44 = .ok (.getfield 28, 3) := by decide +kernel
theorem dX7_keep_47 : decode cX7_keep 47 = .ok (.iload_n 1, 1) := by decide +kernel
theorem dX7_keep_48 : decode cX7_keep 48 = .ok (.aload_n 0, 1) := by decide +kernel
theorem dX7_keep_49 : decode cX7_keep 49 = .ok (.getfield 183, 3) := by decide +kernel
theorem dX7_keep_52 : decode cX7_keep 52 = .ok (.iastore, 1) := by decide +kernel
theorem dX7_keep_53 : decode cX7_keep 53 = .ok (.aload_n 0, 1) := by decide +kernel
theorem dX7_keep_54 : decode cX7_keep 54 = .ok (.getfield 31, 3) := by decide +kernel
theorem dX7_keep_57 : decode cX7_keep 57 = .ok (.iload_n 1, 1) := by decide +kernel
theorem dX7_keep_58 : decode cX7_keep 58 = .ok (.iconst 1, 1) := by decide +kernel
theorem dX7_keep_59 : decode cX7_keep 59 = .ok (.bastore, 1) := by decide +kernel
theorem dX7_keep_60 : decode cX7_keep 60 = .ok (.iconst 1, 1) := by decide +kernel
theorem dX7_keep_61 : decode cX7_keep 61 = .ok (.ireturn, 1) := by decide +kernel
theorem dX7_goBack_0 : decode cX7_goBack 0 = .ok (.iload_n 1, 1) := by decide +kernel
theorem dX7_goBack_1 : decode cX7_goBack 1 = .ok (.iconst 0, 1) := by decide +kernel
theorem dX7_goBack_2 : decode cX7_goBack 2 = .ok (.iconst 1, 1) := by decide +kernel
theorem dX7_goBack_3 : decode cX7_goBack 3 = .ok (.invokestatic 61, 3) := by decide +kernel
theorem dX7_goBack_6 : decode cX7_goBack 6 = .ok (.ifCond .ne 6, 3) := by decide +kernel
theorem dX7_goBack_9 : decode cX7_goBack 9 = .ok (.ldc 161, 2) := by decide +kernel
theorem dX7_goBack_11 : decode cX7_goBack 11 = .ok (.ireturn, 1) := by decide +kernel
theorem dX7_goBack_12 : decode cX7_goBack 12 = .ok (.aload_n 0, 1) := by decide +kernel
theorem dX7_goBack_13 : decode cX7_goBack 13 = .ok (.getfield 31, 3) := by decide +kernel
theorem dX7_goBack_16 : decode cX7_goBack 16 = .ok (.iload_n 1, 1) := by decide +kernel
theorem dX7_goBack_17 : decode cX7_goBack 17 = .ok (.baload, 1) := by decide +kernel
theorem dX7_goBack_18 : decode cX7_goBack 18 = .ok (.ifCond .ne 6, 3) := by decide +kernel
theorem dX7_goBack_21 : decode cX7_goBack 21 = .ok (.ldc 175, 2) := by decide +kernel
theorem dX7_goBack_23 : decode cX7_goBack 23 = .ok (.ireturn, 1) := by decide +kernel
theorem dX7_goBack_24 : decode cX7_goBack 24 = .ok (.iconst 0, 1) := by decide +kernel
theorem dX7_goBack_25 : decode cX7_goBack 25 = .ok (.istore_n 2, 1) := by decide +kernel
theorem dX7_goBack_26 : decode cX7_goBack 26 = .ok (.iload_n 2, 1) := by decide +kernel
theorem dX7_goBack_27 : decode cX7_goBack 27 = .ok (.bipush 32, 2) := by decide +kernel
theorem dX7_goBack_29 : decode cX7_goBack 29 = .ok (.if_icmp .ge 26, 3) := by decide +kernel
theorem dX7_goBack_32 : decode cX7_goBack 32 = .ok (.aload_n 0, 1) := by decide +kernel
theorem dX7_goBack_33 : decode cX7_goBack 33 = .ok (.getfield 19, 3) := by decide +kernel
theorem dX7_goBack_36 : decode cX7_goBack 36 = .ok (.iload_n 2, 1) := by decide +kernel
theorem dX7_goBack_37 : decode cX7_goBack 37 = .ok (.aload_n 0, 1) := by decide +kernel
theorem dX7_goBack_38 : decode cX7_goBack 38 = .ok (.getfield 25, 3) := by decide +kernel
theorem dX7_goBack_41 : decode cX7_goBack 41 = .ok (.bipush 32, 2) := by decide +kernel
theorem dX7_goBack_43 : decode cX7_goBack 43 = .ok (.iload_n 1, 1) := by decide +kernel
theorem dX7_goBack_44 : decode cX7_goBack 44 = .ok (.imul, 1) := by decide +kernel
theorem dX7_goBack_45 : decode cX7_goBack 45 = .ok (.iload_n 2, 1) := by decide +kernel
theorem dX7_goBack_46 : decode cX7_goBack 46 = .ok (.iadd, 1) := by decide +kernel
theorem dX7_goBack_47 : decode cX7_goBack 47 = .ok (.iaload, 1) := by decide +kernel
theorem dX7_goBack_48 : decode cX7_goBack 48 = .ok (.iastore, 1) := by decide +kernel
theorem dX7_goBack_49 : decode cX7_goBack 49 = .ok (.iinc 2 1, 3) := by decide +kernel
theorem dX7_goBack_52 : decode cX7_goBack 52 = .ok (.goto (-26), 3) := by decide +kernel
theorem dX7_goBack_55 : decode cX7_goBack 55 = .ok (.aload_n 0, 1) := by decide +kernel
theorem dX7_goBack_56 : decode cX7_goBack 56 = .ok (.aload_n 0, 1) := by decide +kernel
theorem dX7_goBack_57 : decode cX7_goBack 57 = .ok (.getfield 28, 3) := by decide +kernel
theorem dX7_goBack_60 : decode cX7_goBack 60 = .ok (.iload_n 1, 1) := by decide +kernel
theorem dX7_goBack_61 : decode cX7_goBack 61 = .ok (.iaload, 1) := by decide +kernel
theorem dX7_goBack_62 : decode cX7_goBack 62 = .ok (.putfield 183, 3) := by decide +kernel
theorem dX7_goBack_65 : decode cX7_goBack 65 = .ok (.iconst 1, 1) := by decide +kernel
theorem dX7_goBack_66 : decode cX7_goBack 66 = .ok (.ireturn, 1) := by decide +kernel
theorem dL_law_0 : decode cL_law 0 = .ok (.new 7, 3) := by decide +kernel
theorem dL_law_3 : decode cL_law 3 = .ok (.dup, 1) := by decide +kernel
theorem dL_law_4 : decode cL_law 4 = .ok (.invokespecial 9, 3) := by decide +kernel
theorem dL_law_7 : decode cL_law 7 = .ok (.astore_n 1, 1) := by decide +kernel
theorem dL_law_8 : decode cL_law 8 = .ok (.new 10, 3) := by decide +kernel
theorem dL_law_11 : decode cL_law 11 = .ok (.dup, 1) := by decide +kernel
theorem dL_law_12 : decode cL_law 12 = .ok (.invokespecial 12, 3) := by decide +kernel
theorem dL_law_15 : decode cL_law 15 = .ok (.astore_n 2, 1) := by decide +kernel
theorem dL_law_16 : decode cL_law 16 = .ok (.iconst 0, 1) := by decide +kernel
theorem dL_law_17 : decode cL_law 17 = .ok (.istore_n 3, 1) := by decide +kernel
theorem dL_law_18 : decode cL_law 18 = .ok (.iload_n 3, 1) := by decide +kernel
theorem dL_law_19 : decode cL_law 19 = .ok (.aload_n 0, 1) := by decide +kernel
theorem dL_law_20 : decode cL_law 20 = .ok (.arraylength, 1) := by decide +kernel
theorem dL_law_21 : decode cL_law 21 = .ok (.iconst 4, 1) := by decide +kernel
theorem dL_law_22 : decode cL_law 22 = .ok (.isub, 1) := by decide +kernel
theorem dL_law_23 : decode cL_law 23 = .ok (.if_icmp .gt 682, 3) := by decide +kernel
theorem dL_law_26 : decode cL_law 26 = .ok (.aload_n 0, 1) := by decide +kernel
theorem dL_law_27 : decode cL_law 27 = .ok (.iload_n 3, 1) := by decide +kernel
theorem dL_law_28 : decode cL_law 28 = .ok (.iaload, 1) := by decide +kernel
theorem dL_law_29 : decode cL_law 29 = .ok (.bipush 31, 2) := by decide +kernel
theorem dL_law_31 : decode cL_law 31 = .ok (.iand, 1) := by decide +kernel
theorem dL_law_32 : decode cL_law 32 = .ok (.tableswitch 667 0 22 #[108, 171, 184, 197, 220, 243, 276, 299, 342, 355, 368, 391, 414, 447, 470, 503, 536, 549, 572, 585, 598, 621, 644], 108) := by decide +kernel
theorem dL_law_140 : decode cL_law 140 = .ok (.aload_n 1, 1) := by decide +kernel
theorem dL_law_141 : decode cL_law 141 = .ok (.aload_n 0, 1) := by decide +kernel
theorem dL_law_142 : decode cL_law 142 = .ok (.iload_n 3, 1) := by decide +kernel
theorem dL_law_143 : decode cL_law 143 = .ok (.iconst 1, 1) := by decide +kernel
theorem dL_law_144 : decode cL_law 144 = .ok (.iadd, 1) := by decide +kernel
theorem dL_law_145 : decode cL_law 145 = .ok (.iaload, 1) := by decide +kernel
theorem dL_law_146 : decode cL_law 146 = .ok (.aload_n 0, 1) := by decide +kernel
theorem dL_law_147 : decode cL_law 147 = .ok (.iload_n 3, 1) := by decide +kernel
theorem dL_law_148 : decode cL_law 148 = .ok (.iconst 2, 1) := by decide +kernel
theorem dL_law_149 : decode cL_law 149 = .ok (.iadd, 1) := by decide +kernel
theorem dL_law_150 : decode cL_law 150 = .ok (.iaload, 1) := by decide +kernel
theorem dL_law_151 : decode cL_law 151 = .ok (.i2l, 1) := by decide +kernel
theorem dL_law_152 : decode cL_law 152 = .ok (.bipush 32, 2) := by decide +kernel
theorem dL_law_154 : decode cL_law 154 = .ok (.lshl, 1) := by decide +kernel
theorem dL_law_155 : decode cL_law 155 = .ok (.aload_n 0, 1) := by decide +kernel
theorem dL_law_156 : decode cL_law 156 = .ok (.iload_n 3, 1) := by decide +kernel
theorem dL_law_157 : decode cL_law 157 = .ok (.iconst 3, 1) := by decide +kernel
theorem dL_law_158 : decode cL_law 158 = .ok (.iadd, 1) := by decide +kernel
theorem dL_law_159 : decode cL_law 159 = .ok (.iaload, 1) := by decide +kernel
theorem dL_law_160 : decode cL_law 160 = .ok (.i2l, 1) := by decide +kernel
theorem dL_law_161 : decode cL_law 161 = .ok (.ldc2_w 13, 3) := by decide +kernel
theorem dL_law_164 : decode cL_law 164 = .ok (.land, 1) := by decide +kernel
theorem dL_law_165 : decode cL_law 165 = .ok (.lor, 1) := by decide +kernel
theorem dL_law_166 : decode cL_law 166 = .ok (.invokevirtual 15, 3) := by decide +kernel
theorem dL_law_169 : decode cL_law 169 = .ok (.aload_n 2, 1) := by decide +kernel
theorem dL_law_170 : decode cL_law 170 = .ok (.aload_n 0, 1) := by decide +kernel
theorem dL_law_171 : decode cL_law 171 = .ok (.iload_n 3, 1) := by decide +kernel
theorem dL_law_172 : decode cL_law 172 = .ok (.iconst 1, 1) := by decide +kernel
theorem dL_law_173 : decode cL_law 173 = .ok (.iadd, 1) := by decide +kernel
theorem dL_law_174 : decode cL_law 174 = .ok (.iaload, 1) := by decide +kernel
theorem dL_law_175 : decode cL_law 175 = .ok (.aload_n 0, 1) := by decide +kernel
theorem dL_law_176 : decode cL_law 176 = .ok (.iload_n 3, 1) := by decide +kernel
theorem dL_law_177 : decode cL_law 177 = .ok (.iconst 2, 1) := by decide +kernel
theorem dL_law_178 : decode cL_law 178 = .ok (.iadd, 1) := by decide +kernel
theorem dL_law_179 : decode cL_law 179 = .ok (.iaload, 1) := by decide +kernel
theorem dL_law_180 : decode cL_law 180 = .ok (.i2l, 1) := by decide +kernel
theorem dL_law_181 : decode cL_law 181 = .ok (.bipush 32, 2) := by decide +kernel
theorem dL_law_183 : decode cL_law 183 = .ok (.lshl, 1) := by decide +kernel
theorem dL_law_184 : decode cL_law 184 = .ok (.aload_n 0, 1) := by decide +kernel
theorem dL_law_185 : decode cL_law 185 = .ok (.iload_n 3, 1) := by decide +kernel
theorem dL_law_186 : decode cL_law 186 = .ok (.iconst 3, 1) := by decide +kernel
theorem dL_law_187 : decode cL_law 187 = .ok (.iadd, 1) := by decide +kernel
theorem dL_law_188 : decode cL_law 188 = .ok (.iaload, 1) := by decide +kernel
theorem dL_law_189 : decode cL_law 189 = .ok (.i2l, 1) := by decide +kernel
theorem dL_law_190 : decode cL_law 190 = .ok (.ldc2_w 13, 3) := by decide +kernel
theorem dL_law_193 : decode cL_law 193 = .ok (.land, 1) := by decide +kernel
theorem dL_law_194 : decode cL_law 194 = .ok (.lor, 1) := by decide +kernel
theorem dL_law_195 : decode cL_law 195 = .ok (.invokevirtual 19, 3) := by decide +kernel
theorem dL_law_198 : decode cL_law 198 = .ok (.if_icmp .eq 501, 3) := by decide +kernel
theorem dL_law_201 : decode cL_law 201 = .ok (.iconst 0, 1) := by decide +kernel
theorem dL_law_202 : decode cL_law 202 = .ok (.ireturn, 1) := by decide +kernel
theorem dL_law_203 : decode cL_law 203 = .ok (.aload_n 1, 1) := by decide +kernel
theorem dL_law_204 : decode cL_law 204 = .ok (.invokevirtual 20, 3) := by decide +kernel
theorem dL_law_207 : decode cL_law 207 = .ok (.aload_n 2, 1) := by decide +kernel
theorem dL_law_208 : decode cL_law 208 = .ok (.invokevirtual 24, 3) := by decide +kernel
theorem dL_law_211 : decode cL_law 211 = .ok (.if_icmp .eq 488, 3) := by decide +kernel
theorem dL_law_214 : decode cL_law 214 = .ok (.iconst 0, 1) := by decide +kernel
theorem dL_law_215 : decode cL_law 215 = .ok (.ireturn, 1) := by decide +kernel
theorem dL_law_216 : decode cL_law 216 = .ok (.aload_n 1, 1) := by decide +kernel
theorem dL_law_217 : decode cL_law 217 = .ok (.invokevirtual 25, 3) := by decide +kernel
theorem dL_law_220 : decode cL_law 220 = .ok (.aload_n 2, 1) := by decide +kernel
theorem dL_law_221 : decode cL_law 221 = .ok (.invokevirtual 28, 3) := by decide +kernel
theorem dL_law_224 : decode cL_law 224 = .ok (.if_icmp .eq 475, 3) := by decide +kernel
theorem dL_law_227 : decode cL_law 227 = .ok (.iconst 0, 1) := by decide +kernel
theorem dL_law_228 : decode cL_law 228 = .ok (.ireturn, 1) := by decide +kernel
theorem dL_law_229 : decode cL_law 229 = .ok (.aload_n 1, 1) := by decide +kernel
theorem dL_law_230 : decode cL_law 230 = .ok (.aload_n 0, 1) := by decide +kernel
theorem dL_law_231 : decode cL_law 231 = .ok (.iload_n 3, 1) := by decide +kernel
theorem dL_law_232 : decode cL_law 232 = .ok (.iconst 1, 1) := by decide +kernel
theorem dL_law_233 : decode cL_law 233 = .ok (.iadd, 1) := by decide +kernel
theorem dL_law_234 : decode cL_law 234 = .ok (.iaload, 1) := by decide +kernel
theorem dL_law_235 : decode cL_law 235 = .ok (.invokevirtual 29, 3) := by decide +kernel
theorem dL_law_238 : decode cL_law 238 = .ok (.aload_n 2, 1) := by decide +kernel
theorem dL_law_239 : decode cL_law 239 = .ok (.aload_n 0, 1) := by decide +kernel
theorem dL_law_240 : decode cL_law 240 = .ok (.iload_n 3, 1) := by decide +kernel
theorem dL_law_241 : decode cL_law 241 = .ok (.iconst 1, 1) := by decide +kernel
theorem dL_law_242 : decode cL_law 242 = .ok (.iadd, 1) := by decide +kernel
theorem dL_law_243 : decode cL_law 243 = .ok (.iaload, 1) := by decide +kernel
theorem dL_law_244 : decode cL_law 244 = .ok (.invokevirtual 33, 3) := by decide +kernel
theorem dL_law_247 : decode cL_law 247 = .ok (.if_icmp .eq 452, 3) := by decide +kernel
theorem dL_law_250 : decode cL_law 250 = .ok (.iconst 0, 1) := by decide +kernel
theorem dL_law_251 : decode cL_law 251 = .ok (.ireturn, 1) := by decide +kernel
theorem dL_law_252 : decode cL_law 252 = .ok (.aload_n 1, 1) := by decide +kernel
theorem dL_law_253 : decode cL_law 253 = .ok (.aload_n 0, 1) := by decide +kernel
theorem dL_law_254 : decode cL_law 254 = .ok (.iload_n 3, 1) := by decide +kernel
theorem dL_law_255 : decode cL_law 255 = .ok (.iconst 1, 1) := by decide +kernel
theorem dL_law_256 : decode cL_law 256 = .ok (.iadd, 1) := by decide +kernel
theorem dL_law_257 : decode cL_law 257 = .ok (.iaload, 1) := by decide +kernel
theorem dL_law_258 : decode cL_law 258 = .ok (.invokevirtual 34, 3) := by decide +kernel
theorem dL_law_261 : decode cL_law 261 = .ok (.aload_n 2, 1) := by decide +kernel
theorem dL_law_262 : decode cL_law 262 = .ok (.aload_n 0, 1) := by decide +kernel
theorem dL_law_263 : decode cL_law 263 = .ok (.iload_n 3, 1) := by decide +kernel
theorem dL_law_264 : decode cL_law 264 = .ok (.iconst 1, 1) := by decide +kernel
theorem dL_law_265 : decode cL_law 265 = .ok (.iadd, 1) := by decide +kernel
theorem dL_law_266 : decode cL_law 266 = .ok (.iaload, 1) := by decide +kernel
theorem dL_law_267 : decode cL_law 267 = .ok (.invokevirtual 37, 3) := by decide +kernel
theorem dL_law_270 : decode cL_law 270 = .ok (.if_icmp .eq 429, 3) := by decide +kernel
theorem dL_law_273 : decode cL_law 273 = .ok (.iconst 0, 1) := by decide +kernel
theorem dL_law_274 : decode cL_law 274 = .ok (.ireturn, 1) := by decide +kernel
theorem dL_law_275 : decode cL_law 275 = .ok (.aload_n 1, 1) := by decide +kernel
theorem dL_law_276 : decode cL_law 276 = .ok (.aload_n 0, 1) := by decide +kernel
theorem dL_law_277 : decode cL_law 277 = .ok (.iload_n 3, 1) := by decide +kernel
theorem dL_law_278 : decode cL_law 278 = .ok (.iconst 1, 1) := by decide +kernel
theorem dL_law_279 : decode cL_law 279 = .ok (.iadd, 1) := by decide +kernel
theorem dL_law_280 : decode cL_law 280 = .ok (.iaload, 1) := by decide +kernel
theorem dL_law_281 : decode cL_law 281 = .ok (.aload_n 0, 1) := by decide +kernel
theorem dL_law_282 : decode cL_law 282 = .ok (.iload_n 3, 1) := by decide +kernel
theorem dL_law_283 : decode cL_law 283 = .ok (.iconst 2, 1) := by decide +kernel
theorem dL_law_284 : decode cL_law 284 = .ok (.iadd, 1) := by decide +kernel
theorem dL_law_285 : decode cL_law 285 = .ok (.iaload, 1) := by decide +kernel
theorem dL_law_286 : decode cL_law 286 = .ok (.invokevirtual 38, 3) := by decide +kernel
theorem dL_law_289 : decode cL_law 289 = .ok (.aload_n 2, 1) := by decide +kernel
theorem dL_law_290 : decode cL_law 290 = .ok (.aload_n 0, 1) := by decide +kernel
theorem dL_law_291 : decode cL_law 291 = .ok (.iload_n 3, 1) := by decide +kernel
theorem dL_law_292 : decode cL_law 292 = .ok (.iconst 1, 1) := by decide +kernel
theorem dL_law_293 : decode cL_law 293 = .ok (.iadd, 1) := by decide +kernel
theorem dL_law_294 : decode cL_law 294 = .ok (.iaload, 1) := by decide +kernel
theorem dL_law_295 : decode cL_law 295 = .ok (.aload_n 0, 1) := by decide +kernel
theorem dL_law_296 : decode cL_law 296 = .ok (.iload_n 3, 1) := by decide +kernel
theorem dL_law_297 : decode cL_law 297 = .ok (.iconst 2, 1) := by decide +kernel
theorem dL_law_298 : decode cL_law 298 = .ok (.iadd, 1) := by decide +kernel
theorem dL_law_299 : decode cL_law 299 = .ok (.iaload, 1) := by decide +kernel
theorem dL_law_300 : decode cL_law 300 = .ok (.invokevirtual 42, 3) := by decide +kernel
theorem dL_law_303 : decode cL_law 303 = .ok (.if_icmp .eq 396, 3) := by decide +kernel
theorem dL_law_306 : decode cL_law 306 = .ok (.iconst 0, 1) := by decide +kernel
theorem dL_law_307 : decode cL_law 307 = .ok (.ireturn, 1) := by decide +kernel
theorem dL_law_308 : decode cL_law 308 = .ok (.aload_n 1, 1) := by decide +kernel
theorem dL_law_309 : decode cL_law 309 = .ok (.aload_n 0, 1) := by decide +kernel
theorem dL_law_310 : decode cL_law 310 = .ok (.iload_n 3, 1) := by decide +kernel
theorem dL_law_311 : decode cL_law 311 = .ok (.iconst 1, 1) := by decide +kernel
theorem dL_law_312 : decode cL_law 312 = .ok (.iadd, 1) := by decide +kernel
theorem dL_law_313 : decode cL_law 313 = .ok (.iaload, 1) := by decide +kernel
theorem dL_law_314 : decode cL_law 314 = .ok (.invokevirtual 43, 3) := by decide +kernel
theorem dL_law_317 : decode cL_law 317 = .ok (.aload_n 2, 1) := by decide +kernel
theorem dL_law_318 : decode cL_law 318 = .ok (.aload_n 0, 1) := by decide +kernel
theorem dL_law_319 : decode cL_law 319 = .ok (.iload_n 3, 1) := by decide +kernel
theorem dL_law_320 : decode cL_law 320 = .ok (.iconst 1, 1) := by decide +kernel
theorem dL_law_321 : decode cL_law 321 = .ok (.iadd, 1) := by decide +kernel
theorem dL_law_322 : decode cL_law 322 = .ok (.iaload, 1) := by decide +kernel
theorem dL_law_323 : decode cL_law 323 = .ok (.invokevirtual 46, 3) := by decide +kernel
theorem dL_law_326 : decode cL_law 326 = .ok (.if_icmp .eq 373, 3) := by decide +kernel
theorem dL_law_329 : decode cL_law 329 = .ok (.iconst 0, 1) := by decide +kernel
theorem dL_law_330 : decode cL_law 330 = .ok (.ireturn, 1) := by decide +kernel
theorem dL_law_331 : decode cL_law 331 = .ok (.aload_n 1, 1) := by decide +kernel
theorem dL_law_332 : decode cL_law 332 = .ok (.aload_n 0, 1) := by decide +kernel
theorem dL_law_333 : decode cL_law 333 = .ok (.iload_n 3, 1) := by decide +kernel
theorem dL_law_334 : decode cL_law 334 = .ok (.iconst 1, 1) := by decide +kernel
theorem dL_law_335 : decode cL_law 335 = .ok (.iadd, 1) := by decide +kernel
theorem dL_law_336 : decode cL_law 336 = .ok (.iaload, 1) := by decide +kernel
theorem dL_law_337 : decode cL_law 337 = .ok (.aload_n 0, 1) := by decide +kernel
theorem dL_law_338 : decode cL_law 338 = .ok (.iload_n 3, 1) := by decide +kernel
theorem dL_law_339 : decode cL_law 339 = .ok (.iconst 2, 1) := by decide +kernel
theorem dL_law_340 : decode cL_law 340 = .ok (.iadd, 1) := by decide +kernel
theorem dL_law_341 : decode cL_law 341 = .ok (.iaload, 1) := by decide +kernel
theorem dL_law_342 : decode cL_law 342 = .ok (.aload_n 0, 1) := by decide +kernel
theorem dL_law_343 : decode cL_law 343 = .ok (.iload_n 3, 1) := by decide +kernel
theorem dL_law_344 : decode cL_law 344 = .ok (.iconst 3, 1) := by decide +kernel
theorem dL_law_345 : decode cL_law 345 = .ok (.iadd, 1) := by decide +kernel
theorem dL_law_346 : decode cL_law 346 = .ok (.iaload, 1) := by decide +kernel
theorem dL_law_347 : decode cL_law 347 = .ok (.invokevirtual 47, 3) := by decide +kernel
theorem dL_law_350 : decode cL_law 350 = .ok (.aload_n 2, 1) := by decide +kernel
theorem dL_law_351 : decode cL_law 351 = .ok (.aload_n 0, 1) := by decide +kernel
theorem dL_law_352 : decode cL_law 352 = .ok (.iload_n 3, 1) := by decide +kernel
theorem dL_law_353 : decode cL_law 353 = .ok (.iconst 1, 1) := by decide +kernel
theorem dL_law_354 : decode cL_law 354 = .ok (.iadd, 1) := by decide +kernel
theorem dL_law_355 : decode cL_law 355 = .ok (.iaload, 1) := by decide +kernel
theorem dL_law_356 : decode cL_law 356 = .ok (.aload_n 0, 1) := by decide +kernel
theorem dL_law_357 : decode cL_law 357 = .ok (.iload_n 3, 1) := by decide +kernel
theorem dL_law_358 : decode cL_law 358 = .ok (.iconst 2, 1) := by decide +kernel
theorem dL_law_359 : decode cL_law 359 = .ok (.iadd, 1) := by decide +kernel
theorem dL_law_360 : decode cL_law 360 = .ok (.iaload, 1) := by decide +kernel
theorem dL_law_361 : decode cL_law 361 = .ok (.aload_n 0, 1) := by decide +kernel
theorem dL_law_362 : decode cL_law 362 = .ok (.iload_n 3, 1) := by decide +kernel
theorem dL_law_363 : decode cL_law 363 = .ok (.iconst 3, 1) := by decide +kernel
theorem dL_law_364 : decode cL_law 364 = .ok (.iadd, 1) := by decide +kernel
theorem dL_law_365 : decode cL_law 365 = .ok (.iaload, 1) := by decide +kernel
theorem dL_law_366 : decode cL_law 366 = .ok (.invokevirtual 51, 3) := by decide +kernel
theorem dL_law_369 : decode cL_law 369 = .ok (.if_icmp .eq 330, 3) := by decide +kernel
theorem dL_law_372 : decode cL_law 372 = .ok (.iconst 0, 1) := by decide +kernel
theorem dL_law_373 : decode cL_law 373 = .ok (.ireturn, 1) := by decide +kernel
theorem dL_law_374 : decode cL_law 374 = .ok (.aload_n 1, 1) := by decide +kernel
theorem dL_law_375 : decode cL_law 375 = .ok (.invokevirtual 52, 3) := by decide +kernel
theorem dL_law_378 : decode cL_law 378 = .ok (.aload_n 2, 1) := by decide +kernel
theorem dL_law_379 : decode cL_law 379 = .ok (.invokevirtual 55, 3) := by decide +kernel
theorem dL_law_382 : decode cL_law 382 = .ok (.if_icmp .eq 317, 3) := by decide +kernel
theorem dL_law_385 : decode cL_law 385 = .ok (.iconst 0, 1) := by decide +kernel
theorem dL_law_386 : decode cL_law 386 = .ok (.ireturn, 1) := by decide +kernel
theorem dL_law_387 : decode cL_law 387 = .ok (.aload_n 1, 1) := by decide +kernel
theorem dL_law_388 : decode cL_law 388 = .ok (.invokevirtual 56, 3) := by decide +kernel
theorem dL_law_391 : decode cL_law 391 = .ok (.aload_n 2, 1) := by decide +kernel
theorem dL_law_392 : decode cL_law 392 = .ok (.invokevirtual 59, 3) := by decide +kernel
theorem dL_law_395 : decode cL_law 395 = .ok (.if_icmp .eq 304, 3) := by decide +kernel
theorem dL_law_398 : decode cL_law 398 = .ok (.iconst 0, 1) := by decide +kernel
theorem dL_law_399 : decode cL_law 399 = .ok (.ireturn, 1) := by decide +kernel
theorem dL_law_400 : decode cL_law 400 = .ok (.aload_n 1, 1) := by decide +kernel
theorem dL_law_401 : decode cL_law 401 = .ok (.aload_n 0, 1) := by decide +kernel
theorem dL_law_402 : decode cL_law 402 = .ok (.iload_n 3, 1) := by decide +kernel
theorem dL_law_403 : decode cL_law 403 = .ok (.iconst 1, 1) := by decide +kernel
theorem dL_law_404 : decode cL_law 404 = .ok (.iadd, 1) := by decide +kernel
theorem dL_law_405 : decode cL_law 405 = .ok (.iaload, 1) := by decide +kernel
theorem dL_law_406 : decode cL_law 406 = .ok (.invokevirtual 60, 3) := by decide +kernel
theorem dL_law_409 : decode cL_law 409 = .ok (.aload_n 2, 1) := by decide +kernel
theorem dL_law_410 : decode cL_law 410 = .ok (.aload_n 0, 1) := by decide +kernel
theorem dL_law_411 : decode cL_law 411 = .ok (.iload_n 3, 1) := by decide +kernel
theorem dL_law_412 : decode cL_law 412 = .ok (.iconst 1, 1) := by decide +kernel
theorem dL_law_413 : decode cL_law 413 = .ok (.iadd, 1) := by decide +kernel
theorem dL_law_414 : decode cL_law 414 = .ok (.iaload, 1) := by decide +kernel
theorem dL_law_415 : decode cL_law 415 = .ok (.invokevirtual 63, 3) := by decide +kernel
theorem dL_law_418 : decode cL_law 418 = .ok (.if_icmp .eq 281, 3) := by decide +kernel
theorem dL_law_421 : decode cL_law 421 = .ok (.iconst 0, 1) := by decide +kernel
theorem dL_law_422 : decode cL_law 422 = .ok (.ireturn, 1) := by decide +kernel
theorem dL_law_423 : decode cL_law 423 = .ok (.aload_n 1, 1) := by decide +kernel
theorem dL_law_424 : decode cL_law 424 = .ok (.aload_n 0, 1) := by decide +kernel
theorem dL_law_425 : decode cL_law 425 = .ok (.iload_n 3, 1) := by decide +kernel
theorem dL_law_426 : decode cL_law 426 = .ok (.iconst 1, 1) := by decide +kernel
theorem dL_law_427 : decode cL_law 427 = .ok (.iadd, 1) := by decide +kernel
theorem dL_law_428 : decode cL_law 428 = .ok (.iaload, 1) := by decide +kernel
theorem dL_law_429 : decode cL_law 429 = .ok (.invokevirtual 64, 3) := by decide +kernel
theorem dL_law_432 : decode cL_law 432 = .ok (.aload_n 2, 1) := by decide +kernel
theorem dL_law_433 : decode cL_law 433 = .ok (.aload_n 0, 1) := by decide +kernel
theorem dL_law_434 : decode cL_law 434 = .ok (.iload_n 3, 1) := by decide +kernel
theorem dL_law_435 : decode cL_law 435 = .ok (.iconst 1, 1) := by decide +kernel
theorem dL_law_436 : decode cL_law 436 = .ok (.iadd, 1) := by decide +kernel
theorem dL_law_437 : decode cL_law 437 = .ok (.iaload, 1) := by decide +kernel
theorem dL_law_438 : decode cL_law 438 = .ok (.invokevirtual 67, 3) := by decide +kernel
theorem dL_law_441 : decode cL_law 441 = .ok (.if_icmp .eq 258, 3) := by decide +kernel
theorem dL_law_444 : decode cL_law 444 = .ok (.iconst 0, 1) := by decide +kernel
theorem dL_law_445 : decode cL_law 445 = .ok (.ireturn, 1) := by decide +kernel
theorem dL_law_446 : decode cL_law 446 = .ok (.aload_n 1, 1) := by decide +kernel
theorem dL_law_447 : decode cL_law 447 = .ok (.aload_n 0, 1) := by decide +kernel
theorem dL_law_448 : decode cL_law 448 = .ok (.iload_n 3, 1) := by decide +kernel
theorem dL_law_449 : decode cL_law 449 = .ok (.iconst 1, 1) := by decide +kernel
theorem dL_law_450 : decode cL_law 450 = .ok (.iadd, 1) := by decide +kernel
theorem dL_law_451 : decode cL_law 451 = .ok (.iaload, 1) := by decide +kernel
theorem dL_law_452 : decode cL_law 452 = .ok (.aload_n 0, 1) := by decide +kernel
theorem dL_law_453 : decode cL_law 453 = .ok (.iload_n 3, 1) := by decide +kernel
theorem dL_law_454 : decode cL_law 454 = .ok (.iconst 2, 1) := by decide +kernel
theorem dL_law_455 : decode cL_law 455 = .ok (.iadd, 1) := by decide +kernel
theorem dL_law_456 : decode cL_law 456 = .ok (.iaload, 1) := by decide +kernel
theorem dL_law_457 : decode cL_law 457 = .ok (.invokevirtual 68, 3) := by decide +kernel
theorem dL_law_460 : decode cL_law 460 = .ok (.aload_n 2, 1) := by decide +kernel
theorem dL_law_461 : decode cL_law 461 = .ok (.aload_n 0, 1) := by decide +kernel
theorem dL_law_462 : decode cL_law 462 = .ok (.iload_n 3, 1) := by decide +kernel
theorem dL_law_463 : decode cL_law 463 = .ok (.iconst 1, 1) := by decide +kernel
theorem dL_law_464 : decode cL_law 464 = .ok (.iadd, 1) := by decide +kernel
theorem dL_law_465 : decode cL_law 465 = .ok (.iaload, 1) := by decide +kernel
theorem dL_law_466 : decode cL_law 466 = .ok (.aload_n 0, 1) := by decide +kernel
theorem dL_law_467 : decode cL_law 467 = .ok (.iload_n 3, 1) := by decide +kernel
theorem dL_law_468 : decode cL_law 468 = .ok (.iconst 2, 1) := by decide +kernel
theorem dL_law_469 : decode cL_law 469 = .ok (.iadd, 1) := by decide +kernel
theorem dL_law_470 : decode cL_law 470 = .ok (.iaload, 1) := by decide +kernel
theorem dL_law_471 : decode cL_law 471 = .ok (.invokevirtual 71, 3) := by decide +kernel
theorem dL_law_474 : decode cL_law 474 = .ok (.if_icmp .eq 225, 3) := by decide +kernel
theorem dL_law_477 : decode cL_law 477 = .ok (.iconst 0, 1) := by decide +kernel
theorem dL_law_478 : decode cL_law 478 = .ok (.ireturn, 1) := by decide +kernel
theorem dL_law_479 : decode cL_law 479 = .ok (.aload_n 1, 1) := by decide +kernel
theorem dL_law_480 : decode cL_law 480 = .ok (.aload_n 0, 1) := by decide +kernel
theorem dL_law_481 : decode cL_law 481 = .ok (.iload_n 3, 1) := by decide +kernel
theorem dL_law_482 : decode cL_law 482 = .ok (.iconst 1, 1) := by decide +kernel
theorem dL_law_483 : decode cL_law 483 = .ok (.iadd, 1) := by decide +kernel
theorem dL_law_484 : decode cL_law 484 = .ok (.iaload, 1) := by decide +kernel
theorem dL_law_485 : decode cL_law 485 = .ok (.invokevirtual 72, 3) := by decide +kernel
theorem dL_law_488 : decode cL_law 488 = .ok (.aload_n 2, 1) := by decide +kernel
theorem dL_law_489 : decode cL_law 489 = .ok (.aload_n 0, 1) := by decide +kernel
theorem dL_law_490 : decode cL_law 490 = .ok (.iload_n 3, 1) := by decide +kernel
theorem dL_law_491 : decode cL_law 491 = .ok (.iconst 1, 1) := by decide +kernel
theorem dL_law_492 : decode cL_law 492 = .ok (.iadd, 1) := by decide +kernel
theorem dL_law_493 : decode cL_law 493 = .ok (.iaload, 1) := by decide +kernel
theorem dL_law_494 : decode cL_law 494 = .ok (.invokevirtual 75, 3) := by decide +kernel
theorem dL_law_497 : decode cL_law 497 = .ok (.if_icmp .eq 202, 3) := by decide +kernel
theorem dL_law_500 : decode cL_law 500 = .ok (.iconst 0, 1) := by decide +kernel
theorem dL_law_501 : decode cL_law 501 = .ok (.ireturn, 1) := by decide +kernel
theorem dL_law_502 : decode cL_law 502 = .ok (.aload_n 1, 1) := by decide +kernel
theorem dL_law_503 : decode cL_law 503 = .ok (.aload_n 0, 1) := by decide +kernel
theorem dL_law_504 : decode cL_law 504 = .ok (.iload_n 3, 1) := by decide +kernel
theorem dL_law_505 : decode cL_law 505 = .ok (.iconst 1, 1) := by decide +kernel
theorem dL_law_506 : decode cL_law 506 = .ok (.iadd, 1) := by decide +kernel
theorem dL_law_507 : decode cL_law 507 = .ok (.iaload, 1) := by decide +kernel
theorem dL_law_508 : decode cL_law 508 = .ok (.aload_n 0, 1) := by decide +kernel
theorem dL_law_509 : decode cL_law 509 = .ok (.iload_n 3, 1) := by decide +kernel
theorem dL_law_510 : decode cL_law 510 = .ok (.iconst 2, 1) := by decide +kernel
theorem dL_law_511 : decode cL_law 511 = .ok (.iadd, 1) := by decide +kernel
theorem dL_law_512 : decode cL_law 512 = .ok (.iaload, 1) := by decide +kernel
theorem dL_law_513 : decode cL_law 513 = .ok (.invokevirtual 76, 3) := by decide +kernel
theorem dL_law_516 : decode cL_law 516 = .ok (.aload_n 2, 1) := by decide +kernel
theorem dL_law_517 : decode cL_law 517 = .ok (.aload_n 0, 1) := by decide +kernel
theorem dL_law_518 : decode cL_law 518 = .ok (.iload_n 3, 1) := by decide +kernel
theorem dL_law_519 : decode cL_law 519 = .ok (.iconst 1, 1) := by decide +kernel
theorem dL_law_520 : decode cL_law 520 = .ok (.iadd, 1) := by decide +kernel
theorem dL_law_521 : decode cL_law 521 = .ok (.iaload, 1) := by decide +kernel
theorem dL_law_522 : decode cL_law 522 = .ok (.aload_n 0, 1) := by decide +kernel
theorem dL_law_523 : decode cL_law 523 = .ok (.iload_n 3, 1) := by decide +kernel
theorem dL_law_524 : decode cL_law 524 = .ok (.iconst 2, 1) := by decide +kernel
theorem dL_law_525 : decode cL_law 525 = .ok (.iadd, 1) := by decide +kernel
theorem dL_law_526 : decode cL_law 526 = .ok (.iaload, 1) := by decide +kernel
theorem dL_law_527 : decode cL_law 527 = .ok (.invokevirtual 79, 3) := by decide +kernel
theorem dL_law_530 : decode cL_law 530 = .ok (.if_icmp .eq 169, 3) := by decide +kernel
theorem dL_law_533 : decode cL_law 533 = .ok (.iconst 0, 1) := by decide +kernel
theorem dL_law_534 : decode cL_law 534 = .ok (.ireturn, 1) := by decide +kernel
theorem dL_law_535 : decode cL_law 535 = .ok (.aload_n 1, 1) := by decide +kernel
theorem dL_law_536 : decode cL_law 536 = .ok (.aload_n 0, 1) := by decide +kernel
theorem dL_law_537 : decode cL_law 537 = .ok (.iload_n 3, 1) := by decide +kernel
theorem dL_law_538 : decode cL_law 538 = .ok (.iconst 1, 1) := by decide +kernel
theorem dL_law_539 : decode cL_law 539 = .ok (.iadd, 1) := by decide +kernel
theorem dL_law_540 : decode cL_law 540 = .ok (.iaload, 1) := by decide +kernel
theorem dL_law_541 : decode cL_law 541 = .ok (.aload_n 0, 1) := by decide +kernel
theorem dL_law_542 : decode cL_law 542 = .ok (.iload_n 3, 1) := by decide +kernel
theorem dL_law_543 : decode cL_law 543 = .ok (.iconst 2, 1) := by decide +kernel
theorem dL_law_544 : decode cL_law 544 = .ok (.iadd, 1) := by decide +kernel
theorem dL_law_545 : decode cL_law 545 = .ok (.iaload, 1) := by decide +kernel
theorem dL_law_546 : decode cL_law 546 = .ok (.invokevirtual 80, 3) := by decide +kernel
theorem dL_law_549 : decode cL_law 549 = .ok (.aload_n 2, 1) := by decide +kernel
theorem dL_law_550 : decode cL_law 550 = .ok (.aload_n 0, 1) := by decide +kernel
theorem dL_law_551 : decode cL_law 551 = .ok (.iload_n 3, 1) := by decide +kernel
theorem dL_law_552 : decode cL_law 552 = .ok (.iconst 1, 1) := by decide +kernel
theorem dL_law_553 : decode cL_law 553 = .ok (.iadd, 1) := by decide +kernel
theorem dL_law_554 : decode cL_law 554 = .ok (.iaload, 1) := by decide +kernel
theorem dL_law_555 : decode cL_law 555 = .ok (.aload_n 0, 1) := by decide +kernel
theorem dL_law_556 : decode cL_law 556 = .ok (.iload_n 3, 1) := by decide +kernel
theorem dL_law_557 : decode cL_law 557 = .ok (.iconst 2, 1) := by decide +kernel
theorem dL_law_558 : decode cL_law 558 = .ok (.iadd, 1) := by decide +kernel
theorem dL_law_559 : decode cL_law 559 = .ok (.iaload, 1) := by decide +kernel
theorem dL_law_560 : decode cL_law 560 = .ok (.invokevirtual 83, 3) := by decide +kernel
theorem dL_law_563 : decode cL_law 563 = .ok (.if_icmp .eq 136, 3) := by decide +kernel
theorem dL_law_566 : decode cL_law 566 = .ok (.iconst 0, 1) := by decide +kernel
theorem dL_law_567 : decode cL_law 567 = .ok (.ireturn, 1) := by decide +kernel
theorem dL_law_568 : decode cL_law 568 = .ok (.aload_n 1, 1) := by decide +kernel
theorem dL_law_569 : decode cL_law 569 = .ok (.invokevirtual 84, 3) := by decide +kernel
theorem dL_law_572 : decode cL_law 572 = .ok (.aload_n 2, 1) := by decide +kernel
theorem dL_law_573 : decode cL_law 573 = .ok (.invokevirtual 87, 3) := by decide +kernel
theorem dL_law_576 : decode cL_law 576 = .ok (.if_icmp .eq 123, 3) := by decide +kernel
theorem dL_law_579 : decode cL_law 579 = .ok (.iconst 0, 1) := by decide +kernel
theorem dL_law_580 : decode cL_law 580 = .ok (.ireturn, 1) := by decide +kernel
theorem dL_law_581 : decode cL_law 581 = .ok (.aload_n 1, 1) := by decide +kernel
theorem dL_law_582 : decode cL_law 582 = .ok (.aload_n 0, 1) := by decide +kernel
theorem dL_law_583 : decode cL_law 583 = .ok (.iload_n 3, 1) := by decide +kernel
theorem dL_law_584 : decode cL_law 584 = .ok (.iconst 1, 1) := by decide +kernel
theorem dL_law_585 : decode cL_law 585 = .ok (.iadd, 1) := by decide +kernel
theorem dL_law_586 : decode cL_law 586 = .ok (.iaload, 1) := by decide +kernel
theorem dL_law_587 : decode cL_law 587 = .ok (.invokevirtual 88, 3) := by decide +kernel
theorem dL_law_590 : decode cL_law 590 = .ok (.aload_n 2, 1) := by decide +kernel
theorem dL_law_591 : decode cL_law 591 = .ok (.aload_n 0, 1) := by decide +kernel
theorem dL_law_592 : decode cL_law 592 = .ok (.iload_n 3, 1) := by decide +kernel
theorem dL_law_593 : decode cL_law 593 = .ok (.iconst 1, 1) := by decide +kernel
theorem dL_law_594 : decode cL_law 594 = .ok (.iadd, 1) := by decide +kernel
theorem dL_law_595 : decode cL_law 595 = .ok (.iaload, 1) := by decide +kernel
theorem dL_law_596 : decode cL_law 596 = .ok (.invokevirtual 91, 3) := by decide +kernel
theorem dL_law_599 : decode cL_law 599 = .ok (.if_icmp .eq 100, 3) := by decide +kernel
theorem dL_law_602 : decode cL_law 602 = .ok (.iconst 0, 1) := by decide +kernel
theorem dL_law_603 : decode cL_law 603 = .ok (.ireturn, 1) := by decide +kernel
theorem dL_law_604 : decode cL_law 604 = .ok (.aload_n 1, 1) := by decide +kernel
theorem dL_law_605 : decode cL_law 605 = .ok (.invokevirtual 92, 3) := by decide +kernel
theorem dL_law_608 : decode cL_law 608 = .ok (.aload_n 2, 1) := by decide +kernel
theorem dL_law_609 : decode cL_law 609 = .ok (.invokevirtual 95, 3) := by decide +kernel
theorem dL_law_612 : decode cL_law 612 = .ok (.if_icmp .eq 87, 3) := by decide +kernel
theorem dL_law_615 : decode cL_law 615 = .ok (.iconst 0, 1) := by decide +kernel
theorem dL_law_616 : decode cL_law 616 = .ok (.ireturn, 1) := by decide +kernel
theorem dL_law_617 : decode cL_law 617 = .ok (.aload_n 1, 1) := by decide +kernel
theorem dL_law_618 : decode cL_law 618 = .ok (.invokevirtual 96, 3) := by decide +kernel
theorem dL_law_621 : decode cL_law 621 = .ok (.aload_n 2, 1) := by decide +kernel
theorem dL_law_622 : decode cL_law 622 = .ok (.invokevirtual 99, 3) := by decide +kernel
theorem dL_law_625 : decode cL_law 625 = .ok (.if_icmp .eq 74, 3) := by decide +kernel
theorem dL_law_628 : decode cL_law 628 = .ok (.iconst 0, 1) := by decide +kernel
theorem dL_law_629 : decode cL_law 629 = .ok (.ireturn, 1) := by decide +kernel
theorem dL_law_630 : decode cL_law 630 = .ok (.aload_n 1, 1) := by decide +kernel
theorem dL_law_631 : decode cL_law 631 = .ok (.aload_n 0, 1) := by decide +kernel
theorem dL_law_632 : decode cL_law 632 = .ok (.iload_n 3, 1) := by decide +kernel
theorem dL_law_633 : decode cL_law 633 = .ok (.iconst 1, 1) := by decide +kernel
theorem dL_law_634 : decode cL_law 634 = .ok (.iadd, 1) := by decide +kernel
theorem dL_law_635 : decode cL_law 635 = .ok (.iaload, 1) := by decide +kernel
theorem dL_law_636 : decode cL_law 636 = .ok (.invokevirtual 100, 3) := by decide +kernel
theorem dL_law_639 : decode cL_law 639 = .ok (.aload_n 2, 1) := by decide +kernel
theorem dL_law_640 : decode cL_law 640 = .ok (.aload_n 0, 1) := by decide +kernel
theorem dL_law_641 : decode cL_law 641 = .ok (.iload_n 3, 1) := by decide +kernel
theorem dL_law_642 : decode cL_law 642 = .ok (.iconst 1, 1) := by decide +kernel
theorem dL_law_643 : decode cL_law 643 = .ok (.iadd, 1) := by decide +kernel
theorem dL_law_644 : decode cL_law 644 = .ok (.iaload, 1) := by decide +kernel
theorem dL_law_645 : decode cL_law 645 = .ok (.invokevirtual 103, 3) := by decide +kernel
theorem dL_law_648 : decode cL_law 648 = .ok (.if_icmp .eq 51, 3) := by decide +kernel
theorem dL_law_651 : decode cL_law 651 = .ok (.iconst 0, 1) := by decide +kernel
theorem dL_law_652 : decode cL_law 652 = .ok (.ireturn, 1) := by decide +kernel
theorem dL_law_653 : decode cL_law 653 = .ok (.aload_n 1, 1) := by decide +kernel
theorem dL_law_654 : decode cL_law 654 = .ok (.aload_n 0, 1) := by decide +kernel
theorem dL_law_655 : decode cL_law 655 = .ok (.iload_n 3, 1) := by decide +kernel
theorem dL_law_656 : decode cL_law 656 = .ok (.iconst 1, 1) := by decide +kernel
theorem dL_law_657 : decode cL_law 657 = .ok (.iadd, 1) := by decide +kernel
theorem dL_law_658 : decode cL_law 658 = .ok (.iaload, 1) := by decide +kernel
theorem dL_law_659 : decode cL_law 659 = .ok (.invokevirtual 104, 3) := by decide +kernel
theorem dL_law_662 : decode cL_law 662 = .ok (.aload_n 2, 1) := by decide +kernel
theorem dL_law_663 : decode cL_law 663 = .ok (.aload_n 0, 1) := by decide +kernel
theorem dL_law_664 : decode cL_law 664 = .ok (.iload_n 3, 1) := by decide +kernel
theorem dL_law_665 : decode cL_law 665 = .ok (.iconst 1, 1) := by decide +kernel
theorem dL_law_666 : decode cL_law 666 = .ok (.iadd, 1) := by decide +kernel
theorem dL_law_667 : decode cL_law 667 = .ok (.iaload, 1) := by decide +kernel
theorem dL_law_668 : decode cL_law 668 = .ok (.invokevirtual 107, 3) := by decide +kernel
theorem dL_law_671 : decode cL_law 671 = .ok (.if_icmp .eq 28, 3) := by decide +kernel
theorem dL_law_674 : decode cL_law 674 = .ok (.iconst 0, 1) := by decide +kernel
theorem dL_law_675 : decode cL_law 675 = .ok (.ireturn, 1) := by decide +kernel
theorem dL_law_676 : decode cL_law 676 = .ok (.aload_n 1, 1) := by decide +kernel
theorem dL_law_677 : decode cL_law 677 = .ok (.aload_n 0, 1) := by decide +kernel
theorem dL_law_678 : decode cL_law 678 = .ok (.iload_n 3, 1) := by decide +kernel
theorem dL_law_679 : decode cL_law 679 = .ok (.iconst 1, 1) := by decide +kernel
theorem dL_law_680 : decode cL_law 680 = .ok (.iadd, 1) := by decide +kernel
theorem dL_law_681 : decode cL_law 681 = .ok (.iaload, 1) := by decide +kernel
theorem dL_law_682 : decode cL_law 682 = .ok (.invokevirtual 108, 3) := by decide +kernel
theorem dL_law_685 : decode cL_law 685 = .ok (.aload_n 2, 1) := by decide +kernel
theorem dL_law_686 : decode cL_law 686 = .ok (.aload_n 0, 1) := by decide +kernel
theorem dL_law_687 : decode cL_law 687 = .ok (.iload_n 3, 1) := by decide +kernel
theorem dL_law_688 : decode cL_law 688 = .ok (.iconst 1, 1) := by decide +kernel
theorem dL_law_689 : decode cL_law 689 = .ok (.iadd, 1) := by decide +kernel
theorem dL_law_690 : decode cL_law 690 = .ok (.iaload, 1) := by decide +kernel
theorem dL_law_691 : decode cL_law 691 = .ok (.invokevirtual 111, 3) := by decide +kernel
theorem dL_law_694 : decode cL_law 694 = .ok (.if_icmp .eq 5, 3) := by decide +kernel
theorem dL_law_697 : decode cL_law 697 = .ok (.iconst 0, 1) := by decide +kernel
theorem dL_law_698 : decode cL_law 698 = .ok (.ireturn, 1) := by decide +kernel
theorem dL_law_699 : decode cL_law 699 = .ok (.iinc 3 4, 3) := by decide +kernel
theorem dL_law_702 : decode cL_law 702 = .ok (.goto (-684), 3) := by decide +kernel
theorem dL_law_705 : decode cL_law 705 = .ok (.iconst 1, 1) := by decide +kernel
theorem dL_law_706 : decode cL_law 706 = .ok (.ireturn, 1) := by decide +kernel
