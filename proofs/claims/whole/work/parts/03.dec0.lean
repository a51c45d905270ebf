theorem dX0_init_0 : decode cX0_init 0 = .ok (.aload_n 0, 1) := by decide +kernel
theorem dX0_init_1 : decode cX0_init 1 = .ok (.invokespecial 3, 3) := by decide +kernel
theorem dX0_init_4 : decode cX0_init 4 = .ok (.aload_n 0, 1) := by decide +kernel
theorem dX0_init_5 : decode cX0_init 5 = .ok (.bipush 30, 2) := by decide +kernel
theorem dX0_init_7 : decode cX0_init 7 = .ok (.newarray .int, 2) := by decide +kernel
theorem dX0_init_9 : decode cX0_init 9 = .ok (.putfield 9, 3) := by decide +kernel
theorem dX0_init_12 : decode cX0_init 12 = .ok (.aload_n 0, 1) := by decide +kernel
theorem dX0_init_13 : decode cX0_init 13 = .ok (.bipush 6, 2) := by decide +kernel
theorem dX0_init_15 : decode cX0_init 15 = .ok (.newarray .int, 2) := by decide +kernel
theorem dX0_init_17 : decode cX0_init 17 = .ok (.putfield 15, 3) := by decide +kernel
theorem dX0_init_20 : decode cX0_init 20 = .ok (.aload_n 0, 1) := by decide +kernel
theorem dX0_init_21 : decode cX0_init 21 = .ok (.bipush 6, 2) := by decide +kernel
theorem dX0_init_23 : decode cX0_init 23 = .ok (.newarray .int, 2) := by decide +kernel
theorem dX0_init_25 : decode cX0_init 25 = .ok (.putfield 18, 3) := by decide +kernel
theorem dX0_init_28 : decode cX0_init 28 = .ok (.aload_n 0, 1) := by decide +kernel
theorem dX0_init_29 : decode cX0_init 29 = .ok (.bipush 6, 2) := by decide +kernel
theorem dX0_init_31 : decode cX0_init 31 = .ok (.newarray .int, 2) := by decide +kernel
theorem dX0_init_33 : decode cX0_init 33 = .ok (.putfield 21, 3) := by decide +kernel
theorem dX0_init_36 : decode cX0_init 36 = .ok (.aload_n 0, 1) := by decide +kernel
theorem dX0_init_37 : decode cX0_init 37 = .ok (.invokevirtual 24, 3) := by decide +kernel
theorem dX0_init_40 : decode cX0_init 40 = .ok (.return_, 1) := by decide +kernel
theorem dX0_empty_0 : decode cX0_empty 0 = .ok (.aload_n 0, 1) := by decide +kernel
theorem dX0_empty_1 : decode cX0_empty 1 = .ok (.iconst 0, 1) := by decide +kernel
theorem dX0_empty_2 : decode cX0_empty 2 = .ok (.putfield 27, 3) := by decide +kernel
theorem dX0_empty_5 : decode cX0_empty 5 = .ok (.aload_n 0, 1) := by decide +kernel
theorem dX0_empty_6 : decode cX0_empty 6 = .ok (.iconst 0, 1) := by decide +kernel
theorem dX0_empty_7 : decode cX0_empty 7 = .ok (.putfield 31, 3) := by decide +kernel
theorem dX0_empty_10 : decode cX0_empty 10 = .ok (.aload_n 0, 1) := by decide +kernel
theorem dX0_empty_11 : decode cX0_empty 11 = .ok (.bipush 100, 2) := by decide +kernel
theorem dX0_empty_13 : decode cX0_empty 13 = .ok (.putfield 34, 3) := by decide +kernel
theorem dX0_empty_16 : decode cX0_empty 16 = .ok (.aload_n 0, 1) := by decide +kernel
theorem dX0_empty_17 : decode cX0_empty 17 = .ok (.iconst 1, 1) := by decide +kernel
theorem dX0_empty_18 : decode cX0_empty 18 = .ok (.putfield 37, 3) := by decide +kernel
theorem dX0_empty_21 : decode cX0_empty 21 = .ok (.aload_n 0, 1) := by decide +kernel
theorem dX0_empty_22 : decode cX0_empty 22 = .ok (.iconst 1, 1) := by decide +kernel
theorem dX0_empty_23 : decode cX0_empty 23 = .ok (.putfield 40, 3) := by decide +kernel
theorem dX0_empty_26 : decode cX0_empty 26 = .ok (.aload_n 0, 1) := by decide +kernel
theorem dX0_empty_27 : decode cX0_empty 27 = .ok (.iconst 0, 1) := by decide +kernel
theorem dX0_empty_28 : decode cX0_empty 28 = .ok (.putfield 43, 3) := by decide +kernel
theorem dX0_empty_31 : decode cX0_empty 31 = .ok (.return_, 1) := by decide +kernel
theorem dX0_become_0 : decode cX0_become 0 = .ok (.aload_n 0, 1) := by decide +kernel
theorem dX0_become_1 : decode cX0_become 1 = .ok (.aload_n 1, 1) := by decide +kernel
theorem dX0_become_2 : decode cX0_become 2 = .ok (.getfield 27, 3) := by decide +kernel
theorem dX0_become_5 : decode cX0_become 5 = .ok (.putfield 27, 3) := by decide +kernel
theorem dX0_become_8 : decode cX0_become 8 = .ok (.aload_n 0, 1) := by decide +kernel
theorem dX0_become_9 : decode cX0_become 9 = .ok (.aload_n 1, 1) := by decide +kernel
theorem dX0_become_10 : decode cX0_become 10 = .ok (.getfield 31, 3) := by decide +kernel
theorem dX0_become_13 : decode cX0_become 13 = .ok (.putfield 31, 3) := by decide +kernel
theorem dX0_become_16 : decode cX0_become 16 = .ok (.aload_n 0, 1) := by decide +kernel
theorem dX0_become_17 : decode cX0_become 17 = .ok (.aload_n 1, 1) := by decide +kernel
theorem dX0_become_18 : decode cX0_become 18 = .ok (.getfield 34, 3) := by decide +kernel
theorem dX0_become_21 : decode cX0_become 21 = .ok (.putfield 34, 3) := by decide +kernel
theorem dX0_become_24 : decode cX0_become 24 = .ok (.aload_n 0, 1) := by decide +kernel
theorem dX0_become_25 : decode cX0_become 25 = .ok (.aload_n 1, 1) := by decide +kernel
theorem dX0_become_26 : decode cX0_become 26 = .ok (.getfield 37, 3) := by decide +kernel
theorem dX0_become_29 : decode cX0_become 29 = .ok (.putfield 37, 3) := by decide +kernel
theorem dX0_become_32 : decode cX0_become 32 = .ok (.aload_n 0, 1) := by decide +kernel
theorem dX0_become_33 : decode cX0_become 33 = .ok (.aload_n 1, 1) := by decide +kernel
theorem dX0_become_34 : decode cX0_become 34 = .ok (.getfield 40, 3) := by decide +kernel
theorem dX0_become_37 : decode cX0_become 37 = .ok (.putfield 40, 3) := by decide +kernel
theorem dX0_become_40 : decode cX0_become 40 = .ok (.aload_n 0, 1) := by decide +kernel
theorem dX0_become_41 : decode cX0_become 41 = .ok (.aload_n 1, 1) := by decide +kernel
theorem dX0_become_42 : decode cX0_become 42 = .ok (.getfield 43, 3) := by decide +kernel
theorem dX0_become_45 : decode cX0_become 45 = .ok (.putfield 43, 3) := by decide +kernel
theorem dX0_become_48 : decode cX0_become 48 = .ok (.aload_n 1, 1) := by decide +kernel
theorem dX0_become_49 : decode cX0_become 49 = .ok (.getfield 9, 3) := by decide +kernel
theorem dX0_become_52 : decode cX0_become 52 = .ok (.aload_n 0, 1) := by decide +kernel
theorem dX0_become_53 : decode cX0_become 53 = .ok (.getfield 9, 3) := by decide +kernel
theorem dX0_become_56 : decode cX0_become 56 = .ok (.invokestatic 46, 3) := by decide +kernel
theorem dX0_become_59 : decode cX0_become 59 = .ok (.aload_n 1, 1) := by decide +kernel
theorem dX0_become_60 : decode cX0_become 60 = .ok (.getfield 15, 3) := by decide +kernel
theorem dX0_become_63 : decode cX0_become 63 = .ok (.aload_n 0, 1) := by decide +kernel
theorem dX0_become_64 : decode cX0_become 64 = .ok (.getfield 15, 3) := by decide +kernel
theorem dX0_become_67 : decode cX0_become 67 = .ok (.invokestatic 46, 3) := by decide +kernel
theorem dX0_become_70 : decode cX0_become 70 = .ok (.aload_n 1, 1) := by decide +kernel
theorem dX0_become_71 : decode cX0_become 71 = .ok (.getfield 18, 3) := by decide +kernel
theorem dX0_become_74 : decode cX0_become 74 = .ok (.aload_n 0, 1) := by decide +kernel
theorem dX0_become_75 : decode cX0_become 75 = .ok (.getfield 18, 3) := by decide +kernel
theorem dX0_become_78 : decode cX0_become 78 = .ok (.invokestatic 46, 3) := by decide +kernel
theorem dX0_become_81 : decode cX0_become 81 = .ok (.aload_n 1, 1) := by decide +kernel
theorem dX0_become_82 : decode cX0_become 82 = .ok (.getfield 21, 3) := by decide +kernel
theorem dX0_become_85 : decode cX0_become 85 = .ok (.aload_n 0, 1) := by decide +kernel
theorem dX0_become_86 : decode cX0_become 86 = .ok (.getfield 21, 3) := by decide +kernel
theorem dX0_become_89 : decode cX0_become 89 = .ok (.invokestatic 46, 3) := by decide +kernel
theorem dX0_become_92 : decode cX0_become 92 = .ok (.return_, 1) := by decide +kernel
theorem dX0_setFeet_0 : decode cX0_setFeet 0 = .ok (.aload_n 0, 1) := by decide +kernel
theorem dX0_setFeet_1 : decode cX0_setFeet 1 = .ok (.iload_n 1, 1) := by decide +kernel
theorem dX0_setFeet_2 : decode cX0_setFeet 2 = .ok (.putfield 27, 3) := by decide +kernel
theorem dX0_setFeet_5 : decode cX0_setFeet 5 = .ok (.iconst 0, 1) := by decide +kernel
theorem dX0_setFeet_6 : decode cX0_setFeet 6 = .ok (.istore_n 3, 1) := by decide +kernel
theorem dX0_setFeet_7 : decode cX0_setFeet 7 = .ok (.iload_n 3, 1) := by decide +kernel
theorem dX0_setFeet_8 : decode cX0_setFeet 8 = .ok (.aload_n 0, 1) := by decide +kernel
theorem dX0_setFeet_9 : decode cX0_setFeet 9 = .ok (.getfield 9, 3) := by decide +kernel
theorem dX0_setFeet_12 : decode cX0_setFeet 12 = .ok (.arraylength, 1) := by decide +kernel
theorem dX0_setFeet_13 : decode cX0_setFeet 13 = .ok (.if_icmp .ge 25, 3) := by decide +kernel
theorem dX0_setFeet_16 : decode cX0_setFeet 16 = .ok (.aload_n 0, 1) := by decide +kernel
theorem dX0_setFeet_17 : decode cX0_setFeet 17 = .ok (.getfield 9, 3) := by decide +kernel
theorem dX0_setFeet_20 : decode cX0_setFeet 20 = .ok (.iload_n 3, 1) := by decide +kernel
theorem dX0_setFeet_21 : decode cX0_setFeet 21 = .ok (.iload_n 3, 1) := by decide +kernel
theorem dX0_setFeet_22 : decode cX0_setFeet 22 = .ok (.iload_n 1, 1) := by decide +kernel
theorem dX0_setFeet_23 : decode cX0_setFeet 23 = .ok (.if_icmp .ge 7, 3) := by decide +kernel
theorem dX0_setFeet_26 : decode cX0_setFeet 26 = .ok (.iload_n 2, 1) := by decide +kernel
theorem dX0_setFeet_27 : decode cX0_setFeet 27 = .ok (.goto 4, 3) := by decide +kernel
theorem dX0_setFeet_30 : decode cX0_setFeet 30 = .ok (.iconst 0, 1) := by decide +kernel
theorem dX0_setFeet_31 : decode cX0_setFeet 31 = .ok (.iastore, 1) := by decide +kernel
theorem dX0_setFeet_32 : decode cX0_setFeet 32 = .ok (.iinc 3 1, 3) := by decide +kernel
theorem dX0_setFeet_35 : decode cX0_setFeet 35 = .ok (.goto (-28), 3) := by decide +kernel
theorem dX0_setFeet_38 : decode cX0_setFeet 38 = .ok (.return_, 1) := by decide +kernel
theorem dX0_setSlip_0 : decode cX0_setSlip 0 = .ok (.iload_n 1, 1) := by decide +kernel
theorem dX0_setSlip_1 : decode cX0_setSlip 1 = .ok (.ifCond .lt 19, 3) := by decide +kernel
theorem dX0_setSlip_4 : decode cX0_setSlip 4 = .ok (.iload_n 1, 1) := by decide +kernel
theorem dX0_setSlip_5 : decode cX0_setSlip 5 = .ok (.aload_n 0, 1) := by decide +kernel
theorem dX0_setSlip_6 : decode cX0_setSlip 6 = .ok (.getfield 9, 3) := by decide +kernel
theorem dX0_setSlip_9 : decode cX0_setSlip 9 = .ok (.arraylength, 1) := by decide +kernel
theorem dX0_setSlip_10 : decode cX0_setSlip 10 = .ok (.if_icmp .ge 10, 3) := by decide +kernel
theorem dX0_setSlip_13 : decode cX0_setSlip 13 = .ok (.aload_n 0, 1) := by decide +kernel
theorem dX0_setSlip_14 : decode cX0_setSlip 14 = .ok (.getfield 9, 3) := by decide +kernel
theorem dX0_setSlip_17 : decode cX0_setSlip 17 = .ok (.iload_n 1, 1) := by decide +kernel
theorem dX0_setSlip_18 : decode cX0_setSlip 18 = .ok (.iload_n 2, 1) := by decide +kernel
theorem dX0_setSlip_19 : decode cX0_setSlip 19 = .ok (.iastore, 1) := by decide +kernel
theorem dX0_setSlip_20 : decode cX0_setSlip 20 = .ok (.return_, 1) := by decide +kernel
theorem dX0_addClimber_0 : decode cX0_addClimber 0 = .ok (.aload_n 0, 1) := by decide +kernel
theorem dX0_addClimber_1 : decode cX0_addClimber 1 = .ok (.getfield 31, 3) := by decide +kernel
theorem dX0_addClimber_4 : decode cX0_addClimber 4 = .ok (.istore 4, 2) := by decide +kernel
theorem dX0_addClimber_6 : decode cX0_addClimber 6 = .ok (.iload 4, 2) := by decide +kernel
theorem dX0_addClimber_8 : decode cX0_addClimber 8 = .ok (.ifCond .lt 65, 3) := by decide +kernel
theorem dX0_addClimber_11 : decode cX0_addClimber 11 = .ok (.iload 4, 2) := by decide +kernel
theorem dX0_addClimber_13 : decode cX0_addClimber 13 = .ok (.aload_n 0, 1) := by decide +kernel
theorem dX0_addClimber_14 : decode cX0_addClimber 14 = .ok (.getfield 15, 3) := by decide +kernel
theorem dX0_addClimber_17 : decode cX0_addClimber 17 = .ok (.arraylength, 1) := by decide +kernel
theorem dX0_addClimber_18 : decode cX0_addClimber 18 = .ok (.if_icmp .ge 55, 3) := by decide +kernel
theorem dX0_addClimber_21 : decode cX0_addClimber 21 = .ok (.iload 4, 2) := by decide +kernel
theorem dX0_addClimber_23 : decode cX0_addClimber 23 = .ok (.aload_n 0, 1) := by decide +kernel
theorem dX0_addClimber_24 : decode cX0_addClimber 24 = .ok (.getfield 18, 3) := by decide +kernel
theorem dX0_addClimber_27 : decode cX0_addClimber 27 = .ok (.arraylength, 1) := by decide +kernel
theorem dX0_addClimber_28 : decode cX0_addClimber 28 = .ok (.if_icmp .ge 45, 3) := by decide +kernel
theorem dX0_addClimber_31 : decode cX0_addClimber 31 = .ok (.iload 4, 2) := by decide +kernel
theorem dX0_addClimber_33 : decode cX0_addClimber 33 = .ok (.aload_n 0, 1) := by decide +kernel
theorem dX0_addClimber_34 : decode cX0_addClimber 34 = .ok (.getfield 21, 3) := by decide +kernel
theorem dX0_addClimber_37 : decode cX0_addClimber 37 = .ok (.arraylength, 1) := by decide +kernel
theorem dX0_addClimber_38 : decode cX0_addClimber 38 = .ok (.if_icmp .ge 35, 3) := by decide +kernel
theorem dX0_addClimber_41 : decode cX0_addClimber 41 = .ok (.aload_n 0, 1) := by decide +kernel
theorem dX0_addClimber_42 : decode cX0_addClimber 42 = .ok (.getfield 15, 3) := by decide +kernel
theorem dX0_addClimber_45 : decode cX0_addClimber 45 = .ok (.iload 4, 2) := by decide +kernel
theorem dX0_addClimber_47 : decode cX0_addClimber 47 = .ok (.iload_n 1, 1) := by decide +kernel
theorem dX0_addClimber_48 : decode cX0_addClimber 48 = .ok (.iastore, 1) := by decide +kernel
theorem dX0_addClimber_49 : decode cX0_addClimber 49 = .ok (.aload_n 0, 1) := by decide +kernel
theorem dX0_addClimber_50 : decode cX0_addClimber 50 = .ok (.getfield 18, 3) := by decide +kernel
theorem dX0_addClimber_53 : decode cX0_addClimber 53 = .ok (.iload 4, 2) := by decide +kernel
theorem dX0_addClimber_55 : decode cX0_addClimber 55 = .ok (.iload_n 2, 1) := by decide +kernel
theorem dX0_addClimber_56 : decode cX0_addClimber 56 = .ok (.iastore, 1) := by decide +kernel
theorem dX0_addClimber_57 : decode cX0_addClimber 57 = .ok (.aload_n 0, 1) := by decide +kernel
theorem dX0_addClimber_58 : decode cX0_addClimber 58 = .ok (.getfield 21, 3) := by decide +kernel
theorem dX0_addClimber_61 : decode cX0_addClimber 61 = .ok (.iload 4, 2) := by decide +kernel
theorem dX0_addClimber_63 : decode cX0_addClimber 63 = .ok (.iload_n 3, 1) := by decide +kernel
theorem dX0_addClimber_64 : decode cX0_addClimber 64 = .ok (.iastore, 1) := by decide +kernel
theorem dX0_addClimber_65 : decode cX0_addClimber 65 = .ok (.aload_n 0, 1) := by decide +kernel
theorem dX0_addClimber_66 : decode cX0_addClimber 66 = .ok (.iload 4, 2) := by decide +kernel
theorem dX0_addClimber_68 : decode cX0_addClimber 68 = .ok (.iconst 1, 1) := by decide +kernel
theorem dX0_addClimber_69 : decode cX0_addClimber 69 = .ok (.iadd, 1) := by decide +kernel
theorem dX0_addClimber_70 : decode cX0_addClimber 70 = .ok (.putfield 31, 3) := by decide +kernel
theorem dX0_addClimber_73 : decode cX0_addClimber 73 = .ok (.return_, 1) := by decide +kernel
theorem dX0_hasFoot_0 : decode cX0_hasFoot 0 = .ok (.iload_n 1, 1) := by decide +kernel
theorem dX0_hasFoot_1 : decode cX0_hasFoot 1 = .ok (.ifCond .lt 15, 3) := by decide +kernel
theorem dX0_hasFoot_4 : decode cX0_hasFoot 4 = .ok (.iload_n 1, 1) := by decide +kernel
theorem dX0_hasFoot_5 : decode cX0_hasFoot 5 = .ok (.aload_n 0, 1) := by decide +kernel
theorem dX0_hasFoot_6 : decode cX0_hasFoot 6 = .ok (.getfield 27, 3) := by decide +kernel
theorem dX0_hasFoot_9 : decode cX0_hasFoot 9 = .ok (.if_icmp .ge 7, 3) := by decide +kernel
theorem dX0_hasFoot_12 : decode cX0_hasFoot 12 = .ok (.iconst 1, 1) := by decide +kernel
theorem dX0_hasFoot_13 : decode cX0_hasFoot 13 = .ok (.goto 4, 3) := by decide +kernel
theorem dX0_hasFoot_16 : decode cX0_hasFoot 16 = .ok (.iconst 0, 1) := by decide +kernel
theorem dX0_hasFoot_17 : decode cX0_hasFoot 17 = .ok (.ireturn, 1) := by decide +kernel
theorem dX0_hasClimber_0 : decode cX0_hasClimber 0 = .ok (.iload_n 1, 1) := by decide +kernel
theorem dX0_hasClimber_1 : decode cX0_hasClimber 1 = .ok (.ifCond .lt 15, 3) := by decide +kernel
theorem dX0_hasClimber_4 : decode cX0_hasClimber 4 = .ok (.iload_n 1, 1) := by decide +kernel
theorem dX0_hasClimber_5 : decode cX0_hasClimber 5 = .ok (.aload_n 0, 1) := by decide +kernel
theorem dX0_hasClimber_6 : decode cX0_hasClimber 6 = .ok (.getfield 31, 3) := by decide +kernel
theorem dX0_hasClimber_9 : decode cX0_hasClimber 9 = .ok (.if_icmp .ge 7, 3) := by decide +kernel
theorem dX0_hasClimber_12 : decode cX0_hasClimber 12 = .ok (.iconst 1, 1) := by decide +kernel
theorem dX0_hasClimber_13 : decode cX0_hasClimber 13 = .ok (.goto 4, 3) := by decide +kernel
theorem dX0_hasClimber_16 : decode cX0_hasClimber 16 = .ok (.iconst 0, 1) := by decide +kernel
theorem dX0_hasClimber_17 : decode cX0_hasClimber 17 = .ok (.ireturn, 1) := by decide +kernel
theorem dX0_weightOf_0 : decode cX0_weightOf 0 = .ok (.iload_n 1, 1) := by decide +kernel
theorem dX0_weightOf_1 : decode cX0_weightOf 1 = .ok (.ifCond .lt 21, 3) := by decide +kernel
theorem dX0_weightOf_4 : decode cX0_weightOf 4 = .ok (.iload_n 1, 1) := by decide +kernel
theorem dX0_weightOf_5 : decode cX0_weightOf 5 = .ok (.aload_n 0, 1) := by decide +kernel
theorem dX0_weightOf_6 : decode cX0_weightOf 6 = .ok (.getfield 15, 3) := by decide +kernel
theorem dX0_weightOf_9 : decode cX0_weightOf 9 = .ok (.arraylength, 1) := by decide +kernel
theorem dX0_weightOf_10 : decode cX0_weightOf 10 = .ok (.if_icmp .ge 12, 3) := by decide +kernel
theorem dX0_weightOf_13 : decode cX0_weightOf 13 = .ok (.aload_n 0, 1) := by decide +kernel
theorem dX0_weightOf_14 : decode cX0_weightOf 14 = .ok (.getfield 15, 3) := by decide +kernel
theorem dX0_weightOf_17 : decode cX0_weightOf 17 = .ok (.iload_n 1, 1) := by decide +kernel
theorem dX0_weightOf_18 : decode cX0_weightOf 18 = .ok (.iaload, 1) := by decide +kernel
theorem dX0_weightOf_19 : decode cX0_weightOf 19 = .ok (.goto 4, 3) := by decide +kernel
theorem dX0_weightOf_22 : decode cX0_weightOf 22 = .ok (.iconst 0, 1) := by decide +kernel
theorem dX0_weightOf_23 : decode cX0_weightOf 23 = .ok (.ireturn, 1) := by decide +kernel
theorem dX0_armsOf_0 : decode cX0_armsOf 0 = .ok (.iload_n 1, 1) := by decide +kernel
theorem dX0_armsOf_1 : decode cX0_armsOf 1 = .ok (.ifCond .lt 21, 3) := by decide +kernel
theorem dX0_armsOf_4 : decode cX0_armsOf 4 = .ok (.iload_n 1, 1) := by decide +kernel
theorem dX0_armsOf_5 : decode cX0_armsOf 5 = .ok (.aload_n 0, 1) := by decide +kernel
theorem dX0_armsOf_6 : decode cX0_armsOf 6 = .ok (.getfield 18, 3) := by decide +kernel
theorem dX0_armsOf_9 : decode cX0_armsOf 9 = .ok (.arraylength, 1) := by decide +kernel
theorem dX0_armsOf_10 : decode cX0_armsOf 10 = .ok (.if_icmp .ge 12, 3) := by decide +kernel
theorem dX0_armsOf_13 : decode cX0_armsOf 13 = .ok (.aload_n 0, 1) := by decide +kernel
theorem dX0_armsOf_14 : decode cX0_armsOf 14 = .ok (.getfield 18, 3) := by decide +kernel
theorem dX0_armsOf_17 : decode cX0_armsOf 17 = .ok (.iload_n 1, 1) := by decide +kernel
theorem dX0_armsOf_18 : decode cX0_armsOf 18 = .ok (.iaload, 1) := by decide +kernel
theorem dX0_armsOf_19 : decode cX0_armsOf 19 = .ok (.goto 4, 3) := by decide +kernel
theorem dX0_armsOf_22 : decode cX0_armsOf 22 = .ok (.iconst 0, 1) := by decide +kernel
theorem dX0_armsOf_23 : decode cX0_armsOf 23 = .ok (.ireturn, 1) := by decide +kernel
theorem dX0_rubsOf_0 : decode cX0_rubsOf 0 = .ok (.iload_n 1, 1) := by decide +kernel
theorem dX0_rubsOf_1 : decode cX0_rubsOf 1 = .ok (.ifCond .lt 21, 3) := by decide +kernel
theorem dX0_rubsOf_4 : decode cX0_rubsOf 4 = .ok (.iload_n 1, 1) := by decide +kernel
theorem dX0_rubsOf_5 : decode cX0_rubsOf 5 = .ok (.aload_n 0, 1) := by decide +kernel
theorem dX0_rubsOf_6 : decode cX0_rubsOf 6 = .ok (.getfield 21, 3) := by decide +kernel
theorem dX0_rubsOf_9 : decode cX0_rubsOf 9 = .ok (.arraylength, 1) := by decide +kernel
theorem dX0_rubsOf_10 : decode cX0_rubsOf 10 = .ok (.if_icmp .ge 12, 3) := by decide +kernel
theorem dX0_rubsOf_13 : decode cX0_rubsOf 13 = .ok (.aload_n 0, 1) := by decide +kernel
theorem dX0_rubsOf_14 : decode cX0_rubsOf 14 = .ok (.getfield 21, 3) := by decide +kernel
theorem dX0_rubsOf_17 : decode cX0_rubsOf 17 = .ok (.iload_n 1, 1) := by decide +kernel
theorem dX0_rubsOf_18 : decode cX0_rubsOf 18 = .ok (.iaload, 1) := by decide +kernel
theorem dX0_rubsOf_19 : decode cX0_rubsOf 19 = .ok (.goto 4, 3) := by decide +kernel
theorem dX0_rubsOf_22 : decode cX0_rubsOf 22 = .ok (.iconst 0, 1) := by decide +kernel
theorem dX0_rubsOf_23 : decode cX0_rubsOf 23 = .ok (.ireturn, 1) := by decide +kernel
theorem dX0_mostRub_0 : decode cX0_mostRub 0 = .ok (.iconst 0, 1) := by decide +kernel
theorem dX0_mostRub_1 : decode cX0_mostRub 1 = .ok (.istore_n 1, 1) := by decide +kernel
theorem dX0_mostRub_2 : decode cX0_mostRub 2 = .ok (.iconst 0, 1) := by decide +kernel
theorem dX0_mostRub_3 : decode cX0_mostRub 3 = .ok (.istore_n 2, 1) := by decide +kernel
theorem dX0_mostRub_4 : decode cX0_mostRub 4 = .ok (.iload_n 2, 1) := by decide +kernel
theorem dX0_mostRub_5 : decode cX0_mostRub 5 = .ok (.aload_n 0, 1) := by decide +kernel
theorem dX0_mostRub_6 : decode cX0_mostRub 6 = .ok (.getfield 31, 3) := by decide +kernel
theorem dX0_mostRub_9 : decode cX0_mostRub 9 = .ok (.if_icmp .ge 29, 3) := by decide +kernel
theorem dX0_mostRub_12 : decode cX0_mostRub 12 = .ok (.iload_n 2, 1) := by decide +kernel
theorem dX0_mostRub_13 : decode cX0_mostRub 13 = .ok (.aload_n 0, 1) := by decide +kernel
theorem dX0_mostRub_14 : decode cX0_mostRub 14 = .ok (.getfield 21, 3) := by decide +kernel
theorem dX0_mostRub_17 : decode cX0_mostRub 17 = .ok (.arraylength, 1) := by decide +kernel
theorem dX0_mostRub_18 : decode cX0_mostRub 18 = .ok (.if_icmp .ge 20, 3) := by decide +kernel
theorem dX0_mostRub_21 : decode cX0_mostRub 21 = .ok (.iload_n 1, 1) := by decide +kernel
theorem dX0_mostRub_22 : decode cX0_mostRub 22 = .ok (.aload_n 0, 1) := by decide +kernel
theorem dX0_mostRub_23 : decode cX0_mostRub 23 = .ok (.getfield 21, 3) := by decide +kernel
theorem dX0_mostRub_26 : decode cX0_mostRub 26 = .ok (.iload_n 2, 1) := by decide +kernel
theorem dX0_mostRub_27 : decode cX0_mostRub 27 = .ok (.iaload, 1) := by decide +kernel
theorem dX0_mostRub_28 : decode cX0_mostRub 28 = .ok (.invokestatic 50, 3) := by decide +kernel
theorem dX0_mostRub_31 : decode cX0_mostRub 31 = .ok (.istore_n 1, 1) := by decide +kernel
theorem dX0_mostRub_32 : decode cX0_mostRub 32 = .ok (.iinc 2 1, 3) := by decide +kernel
theorem dX0_mostRub_35 : decode cX0_mostRub 35 = .ok (.goto (-31), 3) := by decide +kernel
theorem dX0_mostRub_38 : decode cX0_mostRub 38 = .ok (.iload_n 1, 1) := by decide +kernel
theorem dX0_mostRub_39 : decode cX0_mostRub 39 = .ok (.ireturn, 1) := by decide +kernel
theorem dX1_init_0 : decode cX1_init 0 = .ok (.aload_n 0, 1) := by decide +kernel
theorem dX1_init_1 : decode cX1_init 1 = .ok (.invokespecial 3, 3) := by decide +kernel
theorem dX1_init_4 : decode cX1_init 4 = .ok (.aload_n 0, 1) := by decide +kernel
theorem dX1_init_5 : decode cX1_init 5 = .ok (.bipush 30, 2) := by decide +kernel
theorem dX1_init_7 : decode cX1_init 7 = .ok (.newarray .int, 2) := by decide +kernel
theorem dX1_init_9 : decode cX1_init 9 = .ok (.putfield 9, 3) := by decide +kernel
theorem dX1_init_12 : decode cX1_init 12 = .ok (.aload_n 0, 1) := by decide +kernel
theorem dX1_init_13 : decode cX1_init 13 = .ok (.iconst (-1), 1) := by decide +kernel
theorem dX1_init_14 : decode cX1_init 14 = .ok (.putfield 15, 3) := by decide +kernel
theorem dX1_init_17 : decode cX1_init 17 = .ok (.return_, 1) := by decide +kernel
theorem dX1_become_0 : decode cX1_become 0 = .ok (.aload_n 0, 1) := by decide +kernel
theorem dX1_become_1 : decode cX1_become 1 = .ok (.aload_n 1, 1) := by decide +kernel
theorem dX1_become_2 : decode cX1_become 2 = .ok (.getfield 19, 3) := by decide +kernel
theorem dX1_become_5 : decode cX1_become 5 = .ok (.putfield 19, 3) := by decide +kernel
theorem dX1_become_8 : decode cX1_become 8 = .ok (.aload_n 0, 1) := by decide +kernel
theorem dX1_become_9 : decode cX1_become 9 = .ok (.aload_n 1, 1) := by decide +kernel
theorem dX1_become_10 : decode cX1_become 10 = .ok (.getfield 15, 3) := by decide +kernel
theorem dX1_become_13 : decode cX1_become 13 = .ok (.putfield 15, 3) := by decide +kernel
theorem dX1_become_16 : decode cX1_become 16 = .ok (.aload_n 0, 1) := by decide +kernel
theorem dX1_become_17 : decode cX1_become 17 = .ok (.aload_n 1, 1) := by decide +kernel
theorem dX1_become_18 : decode cX1_become 18 = .ok (.getfield 22, 3) := by decide +kernel
theorem dX1_become_21 : decode cX1_become 21 = .ok (.putfield 22, 3) := by decide +kernel
theorem dX1_become_24 : decode cX1_become 24 = .ok (.aload_n 1, 1) := by decide +kernel
theorem dX1_become_25 : decode cX1_become 25 = .ok (.getfield 9, 3) := by decide +kernel
theorem dX1_become_28 : decode cX1_become 28 = .ok (.aload_n 0, 1) := by decide +kernel
theorem dX1_become_29 : decode cX1_become 29 = .ok (.getfield 9, 3) := by decide +kernel
theorem dX1_become_32 : decode cX1_become 32 = .ok (.invokestatic 25, 3) := by decide +kernel
theorem dX1_become_35 : decode cX1_become 35 = .ok (.return_, 1) := by decide +kernel
theorem dX1_becomeAsTold_0 : decode cX1_becomeAsTold 0 = .ok (.aload_n 0, 1) := by decide +kernel
theorem dX1_becomeAsTold_1 : decode cX1_becomeAsTold 1 = .ok (.iconst 0, 1) := by decide +kernel
theorem dX1_becomeAsTold_2 : decode cX1_becomeAsTold 2 = .ok (.putfield 19, 3) := by decide +kernel
theorem dX1_becomeAsTold_5 : decode cX1_becomeAsTold 5 = .ok (.aload_n 0, 1) := by decide +kernel
theorem dX1_becomeAsTold_6 : decode cX1_becomeAsTold 6 = .ok (.iconst (-1), 1) := by decide +kernel
theorem dX1_becomeAsTold_7 : decode cX1_becomeAsTold 7 = .ok (.putfield 15, 3) := by decide +kernel
theorem dX1_becomeAsTold_10 : decode cX1_becomeAsTold 10 = .ok (.aload_n 1, 1) := by decide +kernel
theorem dX1_becomeAsTold_11 : decode cX1_becomeAsTold 11 = .ok (.getfield 29, 3) := by decide +kernel
theorem dX1_becomeAsTold_14 : decode cX1_becomeAsTold 14 = .ok (.aload_n 0, 1) := by decide +kernel
theorem dX1_becomeAsTold_15 : decode cX1_becomeAsTold 15 = .ok (.getfield 9, 3) := by decide +kernel
theorem dX1_becomeAsTold_18 : decode cX1_becomeAsTold 18 = .ok (.invokestatic 25, 3) := by decide +kernel
theorem dX1_becomeAsTold_21 : decode cX1_becomeAsTold 21 = .ok (.return_, 1) := by decide +kernel
theorem dX1_isLike_0 : decode cX1_isLike 0 = .ok (.aload_n 0, 1) := by decide +kernel
theorem dX1_isLike_1 : decode cX1_isLike 1 = .ok (.getfield 19, 3) := by decide +kernel
theorem dX1_isLike_4 : decode cX1_isLike 4 = .ok (.aload_n 1, 1) := by decide +kernel
theorem dX1_isLike_5 : decode cX1_isLike 5 = .ok (.getfield 19, 3) := by decide +kernel
theorem dX1_isLike_8 : decode cX1_isLike 8 = .ok (.if_icmp .ne 14, 3) := by decide +kernel
theorem dX1_isLike_11 : decode cX1_isLike 11 = .ok (.aload_n 0, 1) := by decide +kernel
theorem dX1_isLike_12 : decode cX1_isLike 12 = .ok (.getfield 15, 3) := by decide +kernel
theorem dX1_isLike_15 : decode cX1_isLike 15 = .ok (.aload_n 1, 1) := by decide +kernel
theorem dX1_isLike_16 : decode cX1_isLike 16 = .ok (.getfield 15, 3) := by decide +kernel
theorem dX1_isLike_19 : decode cX1_isLike 19 = .ok (.if_icmp .eq 5, 3) := by decide +kernel
theorem dX1_isLike_22 : decode cX1_isLike 22 = .ok (.iconst 0, 1) := by decide +kernel
theorem dX1_isLike_23 : decode cX1_isLike 23 = .ok (.ireturn, 1) := by decide +kernel
theorem dX1_isLike_24 : decode cX1_isLike 24 = .ok (.iconst 0, 1) := by decide +kernel
theorem dX1_isLike_25 : decode cX1_isLike 25 = .ok (.istore_n 2, 1) := by decide +kernel
theorem dX1_isLike_26 : decode cX1_isLike 26 = .ok (.iload_n 2, 1) := by decide +kernel
theorem dX1_isLike_27 : decode cX1_isLike 27 = .ok (.aload_n 0, 1) := by decide +kernel
theorem dX1_isLike_28 : decode cX1_isLike 28 = .ok (.getfield 9, 3) := by decide +kernel
theorem dX1_isLike_31 : decode cX1_isLike 31 = .ok (.arraylength, 1) := by decide +kernel
theorem dX1_isLike_32 : decode cX1_isLike 32 = .ok (.if_icmp .ge 35, 3) := by decide +kernel
theorem dX1_isLike_35 : decode cX1_isLike 35 = .ok (.iload_n 2, 1) := by decide +kernel
theorem dX1_isLike_36 : decode cX1_isLike 36 = .ok (.aload_n 1, 1) := by decide +kernel
theorem dX1_isLike_37 : decode cX1_isLike 37 = .ok (.getfield 9, 3) := by decide +kernel
theorem dX1_isLike_40 : decode cX1_isLike 40 = .ok (.arraylength, 1) := by decide +kernel
theorem dX1_isLike_41 : decode cX1_isLike 41 = .ok (.if_icmp .ge 26, 3) := by decide +kernel
theorem dX1_isLike_44 : decode cX1_isLike 44 = .ok (.aload_n 0, 1) := by decide +kernel
theorem dX1_isLike_45 : decode cX1_isLike 45 = .ok (.getfield 9, 3) := by decide +kernel
theorem dX1_isLike_48 : decode cX1_isLike 48 = .ok (.iload_n 2, 1) := by decide +kernel
theorem dX1_isLike_49 : decode cX1_isLike 49 = .ok (.iaload, 1) := by decide +kernel
theorem dX1_isLike_50 : decode cX1_isLike 50 = .ok (.aload_n 1, 1) := by decide +kernel
theorem dX1_isLike_51 : decode cX1_isLike 51 = .ok (.getfield 9, 3) := by decide +kernel
theorem dX1_isLike_54 : decode cX1_isLike 54 = .ok (.iload_n 2, 1) := by decide +kernel
theorem dX1_isLike_55 : decode cX1_isLike 55 = .ok (.iaload, 1) := by decide +kernel
theorem dX1_isLike_56 : decode cX1_isLike 56 = .ok (.if_icmp .eq 5, 3) := by decide +kernel
theorem dX1_isLike_59 : decode cX1_isLike 59 = .ok (.iconst 0, 1) := by decide +kernel
theorem dX1_isLike_60 : decode cX1_isLike 60 = .ok (.ireturn, 1) := by decide +kernel
theorem dX1_isLike_61 : decode cX1_isLike 61 = .ok (.iinc 2 1, 3) := by decide +kernel
theorem dX1_isLike_64 : decode cX1_isLike 64 = .ok (.goto (-38), 3) := by decide +kernel
theorem dX1_isLike_67 : decode cX1_isLike 67 = .ok (.iconst 1, 1) := by decide +kernel
theorem dX1_isLike_68 : decode cX1_isLike 68 = .ok (.ireturn, 1) := by decide +kernel
theorem dX1_slipOn_0 : decode cX1_slipOn 0 = .ok (.iload_n 1, 1) := by decide +kernel
theorem dX1_slipOn_1 : decode cX1_slipOn 1 = .ok (.ifCond .lt 21, 3) := by decide +kernel
theorem dX1_slipOn_4 : decode cX1_slipOn 4 = .ok (.iload_n 1, 1) := by decide +kernel
theorem dX1_slipOn_5 : decode cX1_slipOn 5 = .ok (.aload_n 0, 1) := by decide +kernel
theorem dX1_slipOn_6 : decode cX1_slipOn 6 = .ok (.getfield 9, 3) := by decide +kernel
theorem dX1_slipOn_9 : decode cX1_slipOn 9 = .ok (.arraylength, 1) := by decide +kernel
theorem dX1_slipOn_10 : decode cX1_slipOn 10 = .ok (.if_icmp .ge 12, 3) := by decide +kernel
theorem dX1_slipOn_13 : decode cX1_slipOn 13 = .ok (.aload_n 0, 1) := by decide +kernel
theorem dX1_slipOn_14 : decode cX1_slipOn 14 = .ok (.getfield 9, 3) := by decide +kernel
theorem dX1_slipOn_17 : decode cX1_slipOn 17 = .ok (.iload_n 1, 1) := by decide +kernel
theorem dX1_slipOn_18 : decode cX1_slipOn 18 = .ok (.iaload, 1) := by decide +kernel
theorem dX1_slipOn_19 : decode cX1_slipOn 19 = .ok (.goto 4, 3) := by decide +kernel
theorem dX1_slipOn_22 : decode cX1_slipOn 22 = .ok (.iconst 0, 1) := by decide +kernel
theorem dX1_slipOn_23 : decode cX1_slipOn 23 = .ok (.ireturn, 1) := by decide +kernel
theorem dX1_slipTogether_0 : decode cX1_slipTogether 0 = .ok (.iconst 0, 1) := by decide +kernel
theorem dX1_slipTogether_1 : decode cX1_slipTogether 1 = .ok (.istore_n 3, 1) := by decide +kernel
theorem dX1_slipTogether_2 : decode cX1_slipTogether 2 = .ok (.iload_n 1, 1) := by decide +kernel
theorem dX1_slipTogether_3 : decode cX1_slipTogether 3 = .ok (.iconst 0, 1) := by decide +kernel
theorem dX1_slipTogether_4 : decode cX1_slipTogether 4 = .ok (.invokestatic 32, 3) := by decide +kernel
theorem dX1_slipTogether_7 : decode cX1_slipTogether 7 = .ok (.istore 4, 2) := by decide +kernel
theorem dX1_slipTogether_9 : decode cX1_slipTogether 9 = .ok (.iload 4, 2) := by decide +kernel
theorem dX1_slipTogether_11 : decode cX1_slipTogether 11 = .ok (.iload_n 2, 1) := by decide +kernel
theorem dX1_slipTogether_12 : decode cX1_slipTogether 12 = .ok (.if_icmp .gt 29, 3) := by decide +kernel
theorem dX1_slipTogether_15 : decode cX1_slipTogether 15 = .ok (.iload 4, 2) := by decide +kernel
theorem dX1_slipTogether_17 : decode cX1_slipTogether 17 = .ok (.aload_n 0, 1) := by decide +kernel
theorem dX1_slipTogether_18 : decode cX1_slipTogether 18 = .ok (.getfield 9, 3) := by decide +kernel
theorem dX1_slipTogether_21 : decode cX1_slipTogether 21 = .ok (.arraylength, 1) := by decide +kernel
theorem dX1_slipTogether_22 : decode cX1_slipTogether 22 = .ok (.if_icmp .ge 19, 3) := by decide +kernel
theorem dX1_slipTogether_25 : decode cX1_slipTogether 25 = .ok (.iload_n 3, 1) := by decide +kernel
theorem dX1_slipTogether_26 : decode cX1_slipTogether 26 = .ok (.aload_n 0, 1) := by decide +kernel
theorem dX1_slipTogether_27 : decode cX1_slipTogether 27 = .ok (.getfield 9, 3) := by decide +kernel
theorem dX1_slipTogether_30 : decode cX1_slipTogether 30 = .ok (.iload 4, 2) := by decide +kernel
theorem dX1_slipTogether_32 : decode cX1_slipTogether 32 = .ok (.iaload, 1) := by decide +kernel
theorem dX1_slipTogether_33 : decode cX1_slipTogether 33 = .ok (.iadd, 1) := by decide +kernel
theorem dX1_slipTogether_34 : decode cX1_slipTogether 34 = .ok (.istore_n 3, 1) := by decide +kernel
theorem dX1_slipTogether_35 : decode cX1_slipTogether 35 = .ok (.iinc 4 1, 3) := by decide +kernel
theorem dX1_slipTogether_38 : decode cX1_slipTogether 38 = .ok (.goto (-29), 3) := by decide +kernel
theorem dX1_slipTogether_41 : decode cX1_slipTogether 41 = .ok (.iload_n 3, 1) := by decide +kernel
theorem dX1_slipTogether_42 : decode cX1_slipTogether 42 = .ok (.ireturn, 1) := by decide +kernel
theorem dX1_addSlip_0 : decode cX1_addSlip 0 = .ok (.iload_n 1, 1) := by decide +kernel
theorem dX1_addSlip_1 : decode cX1_addSlip 1 = .ok (.iconst 0, 1) := by decide +kernel
theorem dX1_addSlip_2 : decode cX1_addSlip 2 = .ok (.invokestatic 32, 3) := by decide +kernel
theorem dX1_addSlip_5 : decode cX1_addSlip 5 = .ok (.istore 4, 2) := by decide +kernel
theorem dX1_addSlip_7 : decode cX1_addSlip 7 = .ok (.iload 4, 2) := by decide +kernel
theorem dX1_addSlip_9 : decode cX1_addSlip 9 = .ok (.iload_n 2, 1) := by decide +kernel
theorem dX1_addSlip_10 : decode cX1_addSlip 10 = .ok (.if_icmp .gt 40, 3) := by decide +kernel
theorem dX1_addSlip_13 : decode cX1_addSlip 13 = .ok (.iload 4, 2) := by decide +kernel
theorem dX1_addSlip_15 : decode cX1_addSlip 15 = .ok (.aload_n 0, 1) := by decide +kernel
theorem dX1_addSlip_16 : decode cX1_addSlip 16 = .ok (.getfield 9, 3) := by decide +kernel
theorem dX1_addSlip_19 : decode cX1_addSlip 19 = .ok (.arraylength, 1) := by decide +kernel
theorem dX1_addSlip_20 : decode cX1_addSlip 20 = .ok (.if_icmp .ge 30, 3) := by decide +kernel
theorem dX1_addSlip_23 : decode cX1_addSlip 23 = .ok (.aload_n 0, 1) := by decide +kernel
theorem dX1_addSlip_24 : decode cX1_addSlip 24 = .ok (.getfield 9, 3) := by decide +kernel
theorem dX1_addSlip_27 : decode cX1_addSlip 27 = .ok (.iload 4, 2) := by decide +kernel
theorem dX1_addSlip_29 : decode cX1_addSlip 29 = .ok (.bipush 99, 2) := by decide +kernel
theorem dX1_addSlip_31 : decode cX1_addSlip 31 = .ok (.aload_n 0, 1) := by decide +kernel
theorem dX1_addSlip_32 : decode cX1_addSlip 32 = .ok (.getfield 9, 3) := by decide +kernel
theorem dX1_addSlip_35 : decode cX1_addSlip 35 = .ok (.iload 4, 2) := by decide +kernel
theorem dX1_addSlip_37 : decode cX1_addSlip 37 = .ok (.iaload, 1) := by decide +kernel
theorem dX1_addSlip_38 : decode cX1_addSlip 38 = .ok (.iload_n 3, 1) := by decide +kernel
theorem dX1_addSlip_39 : decode cX1_addSlip 39 = .ok (.iadd, 1) := by decide +kernel
theorem dX1_addSlip_40 : decode cX1_addSlip 40 = .ok (.invokestatic 38, 3) := by decide +kernel
theorem dX1_addSlip_43 : decode cX1_addSlip 43 = .ok (.iastore, 1) := by decide +kernel
theorem dX1_addSlip_44 : decode cX1_addSlip 44 = .ok (.iinc 4 1, 3) := by decide +kernel
theorem dX1_addSlip_47 : decode cX1_addSlip 47 = .ok (.goto (-40), 3) := by decide +kernel
theorem dX1_addSlip_50 : decode cX1_addSlip 50 = .ok (.return_, 1) := by decide +kernel
theorem dX1_coat_0 : decode cX1_coat 0 = .ok (.iconst 0, 1) := by decide +kernel
theorem dX1_coat_1 : decode cX1_coat 1 = .ok (.istore_n 2, 1) := by decide +kernel
theorem dX1_coat_2 : decode cX1_coat 2 = .ok (.iload_n 2, 1) := by decide +kernel
theorem dX1_coat_3 : decode cX1_coat 3 = .ok (.aload_n 0, 1) := by decide +kernel
theorem dX1_coat_4 : decode cX1_coat 4 = .ok (.getfield 9, 3) := by decide +kernel
theorem dX1_coat_7 : decode cX1_coat 7 = .ok (.arraylength, 1) := by decide +kernel
theorem dX1_coat_8 : decode cX1_coat 8 = .ok (.if_icmp .ge 16, 3) := by decide +kernel
theorem dX1_coat_11 : decode cX1_coat 11 = .ok (.aload_n 0, 1) := by decide +kernel
theorem dX1_coat_12 : decode cX1_coat 12 = .ok (.getfield 9, 3) := by decide +kernel
theorem dX1_coat_15 : decode cX1_coat 15 = .ok (.iload_n 2, 1) := by decide +kernel
theorem dX1_coat_16 : decode cX1_coat 16 = .ok (.iload_n 1, 1) := by decide +kernel
theorem dX1_coat_17 : decode cX1_coat 17 = .ok (.iastore, 1) := by decide +kernel
theorem dX1_coat_18 : decode cX1_coat 18 = .ok (.iinc 2 1, 3) := by decide +kernel
theorem dX1_coat_21 : decode cX1_coat 21 = .ok (.goto (-19), 3) := by decide +kernel
theorem dX1_coat_24 : decode cX1_coat 24 = .ok (.return_, 1) := by decide +kernel
theorem dX1_reach_0 : decode cX1_reach 0 = .ok (.aload_n 1, 1) := by decide +kernel
theorem dX1_reach_1 : decode cX1_reach 1 = .ok (.iload_n 2, 1) := by decide +kernel
theorem dX1_reach_2 : decode cX1_reach 2 = .ok (.invokevirtual 41, 3) := by decide +kernel
theorem dX1_reach_5 : decode cX1_reach 5 = .ok (.istore 5, 2) := by decide +kernel
theorem dX1_reach_7 : decode cX1_reach 7 = .ok (.aload_n 1, 1) := by decide +kernel
theorem dX1_reach_8 : decode cX1_reach 8 = .ok (.iload_n 2, 1) := by decide +kernel
theorem dX1_reach_9 : decode cX1_reach 9 = .ok (.invokevirtual 45, 3) := by decide +kernel
theorem dX1_reach_12 : decode cX1_reach 12 = .ok (.istore 6, 2) := by decide +kernel
theorem dX1_reach_14 : decode cX1_reach 14 = .ok (.iload_n 3, 1) := by decide +kernel
theorem dX1_reach_15 : decode cX1_reach 15 = .ok (.iconst 0, 1) := by decide +kernel
theorem dX1_reach_16 : decode cX1_reach 16 = .ok (.invokestatic 32, 3) := by decide +kernel
theorem dX1_reach_19 : decode cX1_reach 19 = .ok (.istore 7, 2) := by decide +kernel
theorem dX1_reach_21 : decode cX1_reach 21 = .ok (.iload 7, 2) := by decide +kernel
theorem dX1_reach_23 : decode cX1_reach 23 = .ok (.aload_n 1, 1) := by decide +kernel
theorem dX1_reach_24 : decode cX1_reach 24 = .ok (.getfield 48, 3) := by decide +kernel
theorem dX1_reach_27 : decode cX1_reach 27 = .ok (.if_icmp .ge 67, 3) := by decide +kernel
theorem dX1_reach_30 : decode cX1_reach 30 = .ok (.iload 7, 2) := by decide +kernel
theorem dX1_reach_32 : decode cX1_reach 32 = .ok (.aload_n 0, 1) := by decide +kernel
theorem dX1_reach_33 : decode cX1_reach 33 = .ok (.getfield 9, 3) := by decide +kernel
theorem dX1_reach_36 : decode cX1_reach 36 = .ok (.arraylength, 1) := by decide +kernel
theorem dX1_reach_37 : decode cX1_reach 37 = .ok (.if_icmp .ge 57, 3) := by decide +kernel
theorem dX1_reach_40 : decode cX1_reach 40 = .ok (.aload_n 0, 1) := by decide +kernel
theorem dX1_reach_41 : decode cX1_reach 41 = .ok (.getfield 9, 3) := by decide +kernel
theorem dX1_reach_44 : decode cX1_reach 44 = .ok (.iload 7, 2) := by decide +kernel
theorem dX1_reach_46 : decode cX1_reach 46 = .ok (.iaload, 1) := by decide +kernel
theorem dX1_reach_47 : decode cX1_reach 47 = .ok (.iload 5, 2) := by decide +kernel
theorem dX1_reach_49 : decode cX1_reach 49 = .ok (.imul, 1) := by decide +kernel
theorem dX1_reach_50 : decode cX1_reach 50 = .ok (.bipush 50, 2) := by decide +kernel
theorem dX1_reach_52 : decode cX1_reach 52 = .ok (.idiv, 1) := by decide +kernel
theorem dX1_reach_53 : decode cX1_reach 53 = .ok (.iconst 1, 1) := by decide +kernel
theorem dX1_reach_54 : decode cX1_reach 54 = .ok (.iadd, 1) := by decide +kernel
theorem dX1_reach_55 : decode cX1_reach 55 = .ok (.istore 8, 2) := by decide +kernel
theorem dX1_reach_57 : decode cX1_reach 57 = .ok (.iload 6, 2) := by decide +kernel
theorem dX1_reach_59 : decode cX1_reach 59 = .ok (.iload 4, 2) := by decide +kernel
theorem dX1_reach_61 : decode cX1_reach 61 = .ok (.ifCond .eq 14, 3) := by decide +kernel
theorem dX1_reach_64 : decode cX1_reach 64 = .ok (.iconst 1, 1) := by decide +kernel
theorem dX1_reach_65 : decode cX1_reach 65 = .ok (.iload 8, 2) := by decide +kernel
theorem dX1_reach_67 : decode cX1_reach 67 = .ok (.iconst 2, 1) := by decide +kernel
theorem dX1_reach_68 : decode cX1_reach 68 = .ok (.idiv, 1) := by decide +kernel
theorem dX1_reach_69 : decode cX1_reach 69 = .ok (.invokestatic 32, 3) := by decide +kernel
theorem dX1_reach_72 : decode cX1_reach 72 = .ok (.goto 5, 3) := by decide +kernel
theorem dX1_reach_75 : decode cX1_reach 75 = .ok (.iload 8, 2) := by decide +kernel
theorem dX1_reach_77 : decode cX1_reach 77 = .ok (.isub, 1) := by decide +kernel
theorem dX1_reach_78 : decode cX1_reach 78 = .ok (.istore 6, 2) := by decide +kernel
theorem dX1_reach_80 : decode cX1_reach 80 = .ok (.iload 6, 2) := by decide +kernel
theorem dX1_reach_82 : decode cX1_reach 82 = .ok (.ifCond .ge 6, 3) := by decide +kernel
theorem dX1_reach_85 : decode cX1_reach 85 = .ok (.iload 7, 2) := by decide +kernel
theorem dX1_reach_87 : decode cX1_reach 87 = .ok (.ireturn, 1) := by decide +kernel
theorem dX1_reach_88 : decode cX1_reach 88 = .ok (.iinc 7 1, 3) := by decide +kernel
theorem dX1_reach_91 : decode cX1_reach 91 = .ok (.goto (-70), 3) := by decide +kernel
theorem dX1_reach_94 : decode cX1_reach 94 = .ok (.aload_n 1, 1) := by decide +kernel
theorem dX1_reach_95 : decode cX1_reach 95 = .ok (.getfield 48, 3) := by decide +kernel
theorem dX1_reach_98 : decode cX1_reach 98 = .ok (.ireturn, 1) := by decide +kernel
theorem dX1_mayReach_0 : decode cX1_mayReach 0 = .ok (.aload_n 1, 1) := by decide +kernel
theorem dX1_mayReach_1 : decode cX1_mayReach 1 = .ok (.iload_n 2, 1) := by decide +kernel
theorem dX1_mayReach_2 : decode cX1_mayReach 2 = .ok (.invokevirtual 41, 3) := by decide +kernel
theorem dX1_mayReach_5 : decode cX1_mayReach 5 = .ok (.istore 4, 2) := by decide +kernel
theorem dX1_mayReach_7 : decode cX1_mayReach 7 = .ok (.aload_n 1, 1) := by decide +kernel
theorem dX1_mayReach_8 : decode cX1_mayReach 8 = .ok (.iload_n 2, 1) := by decide +kernel
theorem dX1_mayReach_9 : decode cX1_mayReach 9 = .ok (.invokevirtual 45, 3) := by decide +kernel
theorem dX1_mayReach_12 : decode cX1_mayReach 12 = .ok (.aload_n 1, 1) := by decide +kernel
theorem dX1_mayReach_13 : decode cX1_mayReach 13 = .ok (.getfield 48, 3) := by decide +kernel
theorem dX1_mayReach_16 : decode cX1_mayReach 16 = .ok (.isub, 1) := by decide +kernel
theorem dX1_mayReach_17 : decode cX1_mayReach 17 = .ok (.istore 5, 2) := by decide +kernel
theorem dX1_mayReach_19 : decode cX1_mayReach 19 = .ok (.iconst 0, 1) := by decide +kernel
theorem dX1_mayReach_20 : decode cX1_mayReach 20 = .ok (.istore 6, 2) := by decide +kernel
theorem dX1_mayReach_22 : decode cX1_mayReach 22 = .ok (.iload 6, 2) := by decide +kernel
theorem dX1_mayReach_24 : decode cX1_mayReach 24 = .ok (.aload_n 1, 1) := by decide +kernel
theorem dX1_mayReach_25 : decode cX1_mayReach 25 = .ok (.getfield 48, 3) := by decide +kernel
theorem dX1_mayReach_28 : decode cX1_mayReach 28 = .ok (.if_icmp .ge 48, 3) := by decide +kernel
theorem dX1_mayReach_31 : decode cX1_mayReach 31 = .ok (.iload 6, 2) := by decide +kernel
theorem dX1_mayReach_33 : decode cX1_mayReach 33 = .ok (.aload_n 0, 1) := by decide +kernel
theorem dX1_mayReach_34 : decode cX1_mayReach 34 = .ok (.getfield 9, 3) := by decide +kernel
theorem dX1_mayReach_37 : decode cX1_mayReach 37 = .ok (.arraylength, 1) := by decide +kernel
theorem dX1_mayReach_38 : decode cX1_mayReach 38 = .ok (.if_icmp .ge 38, 3) := by decide +kernel
theorem dX1_mayReach_41 : decode cX1_mayReach 41 = .ok (.iload 5, 2) := by decide +kernel
theorem dX1_mayReach_43 : decode cX1_mayReach 43 = .ok (.ifCond .lt 33, 3) := by decide +kernel
theorem dX1_mayReach_46 : decode cX1_mayReach 46 = .ok (.iload 5, 2) := by decide +kernel
theorem dX1_mayReach_48 : decode cX1_mayReach 48 = .ok (.iconst 0, 1) := by decide +kernel
theorem dX1_mayReach_49 : decode cX1_mayReach 49 = .ok (.aload_n 0, 1) := by decide +kernel
theorem dX1_mayReach_50 : decode cX1_mayReach 50 = .ok (.getfield 9, 3) := by decide +kernel
theorem dX1_mayReach_53 : decode cX1_mayReach 53 = .ok (.iload 6, 2) := by decide +kernel
theorem dX1_mayReach_55 : decode cX1_mayReach 55 = .ok (.iaload, 1) := by decide +kernel
theorem dX1_mayReach_56 : decode cX1_mayReach 56 = .ok (.iload_n 3, 1) := by decide +kernel
theorem dX1_mayReach_57 : decode cX1_mayReach 57 = .ok (.isub, 1) := by decide +kernel
theorem dX1_mayReach_58 : decode cX1_mayReach 58 = .ok (.invokestatic 32, 3) := by decide +kernel
theorem dX1_mayReach_61 : decode cX1_mayReach 61 = .ok (.iload 4, 2) := by decide +kernel
theorem dX1_mayReach_63 : decode cX1_mayReach 63 = .ok (.imul, 1) := by decide +kernel
theorem dX1_mayReach_64 : decode cX1_mayReach 64 = .ok (.bipush 50, 2) := by decide +kernel
theorem dX1_mayReach_66 : decode cX1_mayReach 66 = .ok (.idiv, 1) := by decide +kernel
theorem dX1_mayReach_67 : decode cX1_mayReach 67 = .ok (.isub, 1) := by decide +kernel
theorem dX1_mayReach_68 : decode cX1_mayReach 68 = .ok (.istore 5, 2) := by decide +kernel
theorem dX1_mayReach_70 : decode cX1_mayReach 70 = .ok (.iinc 6 1, 3) := by decide +kernel
theorem dX1_mayReach_73 : decode cX1_mayReach 73 = .ok (.goto (-51), 3) := by decide +kernel
theorem dX1_mayReach_76 : decode cX1_mayReach 76 = .ok (.iload 5, 2) := by decide +kernel
theorem dX1_mayReach_78 : decode cX1_mayReach 78 = .ok (.ifCond .lt 7, 3) := by decide +kernel
theorem dX1_mayReach_81 : decode cX1_mayReach 81 = .ok (.iconst 1, 1) := by decide +kernel
theorem dX1_mayReach_82 : decode cX1_mayReach 82 = .ok (.goto 4, 3) := by decide +kernel
theorem dX1_mayReach_85 : decode cX1_mayReach 85 = .ok (.iconst 0, 1) := by decide +kernel
theorem dX1_mayReach_86 : decode cX1_mayReach 86 = .ok (.ireturn, 1) := by decide +kernel
theorem dX1_climb_0 : decode cX1_climb 0 = .ok (.aload_n 0, 1) := by decide +kernel
theorem dX1_climb_1 : decode cX1_climb 1 = .ok (.aload_n 1, 1) := by decide +kernel
theorem dX1_climb_2 : decode cX1_climb 2 = .ok (.iload_n 2, 1) := by decide +kernel
theorem dX1_climb_3 : decode cX1_climb 3 = .ok (.iconst 0, 1) := by decide +kernel
theorem dX1_climb_4 : decode cX1_climb 4 = .ok (.iload_n 3, 1) := by decide +kernel
theorem dX1_climb_5 : decode cX1_climb 5 = .ok (.invokevirtual 51, 3) := by decide +kernel
theorem dX1_climb_8 : decode cX1_climb 8 = .ok (.istore 4, 2) := by decide +kernel
theorem dX1_climb_10 : decode cX1_climb 10 = .ok (.aload_n 0, 1) := by decide +kernel
theorem dX1_climb_11 : decode cX1_climb 11 = .ok (.iload 4, 2) := by decide +kernel
theorem dX1_climb_13 : decode cX1_climb 13 = .ok (.aload_n 1, 1) := by decide +kernel
theorem dX1_climb_14 : decode cX1_climb 14 = .ok (.iload_n 2, 1) := by decide +kernel
theorem dX1_climb_15 : decode cX1_climb 15 = .ok (.invokevirtual 55, 3) := by decide +kernel
theorem dX1_climb_18 : decode cX1_climb 18 = .ok (.invokevirtual 58, 3) := by decide +kernel
theorem dX1_climb_21 : decode cX1_climb 21 = .ok (.istore 5, 2) := by decide +kernel
theorem dX1_climb_23 : decode cX1_climb 23 = .ok (.iload 4, 2) := by decide +kernel
theorem dX1_climb_25 : decode cX1_climb 25 = .ok (.aload_n 1, 1) := by decide +kernel
theorem dX1_climb_26 : decode cX1_climb 26 = .ok (.getfield 48, 3) := by decide +kernel
theorem dX1_climb_29 : decode cX1_climb 29 = .ok (.if_icmp .ne 16, 3) := by decide +kernel
theorem dX1_climb_32 : decode cX1_climb 32 = .ok (.aload_n 0, 1) := by decide +kernel
theorem dX1_climb_33 : decode cX1_climb 33 = .ok (.getfield 15, 3) := by decide +kernel
theorem dX1_climb_36 : decode cX1_climb 36 = .ok (.iconst (-1), 1) := by decide +kernel
theorem dX1_climb_37 : decode cX1_climb 37 = .ok (.if_icmp .ne 8, 3) := by decide +kernel
theorem dX1_climb_40 : decode cX1_climb 40 = .ok (.aload_n 0, 1) := by decide +kernel
theorem dX1_climb_41 : decode cX1_climb 41 = .ok (.iload_n 2, 1) := by decide +kernel
theorem dX1_climb_42 : decode cX1_climb 42 = .ok (.putfield 15, 3) := by decide +kernel
theorem dX1_climb_45 : decode cX1_climb 45 = .ok (.aload_n 0, 1) := by decide +kernel
theorem dX1_climb_46 : decode cX1_climb 46 = .ok (.iload 4, 2) := by decide +kernel
theorem dX1_climb_48 : decode cX1_climb 48 = .ok (.iload 5, 2) := by decide +kernel
theorem dX1_climb_50 : decode cX1_climb 50 = .ok (.iconst 4, 1) := by decide +kernel
theorem dX1_climb_51 : decode cX1_climb 51 = .ok (.idiv, 1) := by decide +kernel
theorem dX1_climb_52 : decode cX1_climb 52 = .ok (.invokevirtual 61, 3) := by decide +kernel
theorem dX1_climb_55 : decode cX1_climb 55 = .ok (.aload_n 0, 1) := by decide +kernel
theorem dX1_climb_56 : decode cX1_climb 56 = .ok (.dup, 1) := by decide +kernel
theorem dX1_climb_57 : decode cX1_climb 57 = .ok (.getfield 19, 3) := by decide +kernel
theorem dX1_climb_60 : decode cX1_climb 60 = .ok (.iconst 1, 1) := by decide +kernel
theorem dX1_climb_61 : decode cX1_climb 61 = .ok (.iadd, 1) := by decide +kernel
theorem dX1_climb_62 : decode cX1_climb 62 = .ok (.putfield 19, 3) := by decide +kernel
theorem dX1_climb_65 : decode cX1_climb 65 = .ok (.aload_n 1, 1) := by decide +kernel
theorem dX1_climb_66 : decode cX1_climb 66 = .ok (.getfield 65, 3) := by decide +kernel
theorem dX1_climb_69 : decode cX1_climb 69 = .ok (.ifCond .le 30, 3) := by decide +kernel
theorem dX1_climb_72 : decode cX1_climb 72 = .ok (.aload_n 0, 1) := by decide +kernel
theorem dX1_climb_73 : decode cX1_climb 73 = .ok (.getfield 19, 3) := by decide +kernel
theorem dX1_climb_76 : decode cX1_climb 76 = .ok (.aload_n 1, 1) := by decide +kernel
theorem dX1_climb_77 : decode cX1_climb 77 = .ok (.getfield 65, 3) := by decide +kernel
theorem dX1_climb_80 : decode cX1_climb 80 = .ok (.irem, 1) := by decide +kernel
theorem dX1_climb_81 : decode cX1_climb 81 = .ok (.ifCond .ne 18, 3) := by decide +kernel
theorem dX1_climb_84 : decode cX1_climb 84 = .ok (.aload_n 0, 1) := by decide +kernel
theorem dX1_climb_85 : decode cX1_climb 85 = .ok (.iconst 0, 1) := by decide +kernel
theorem dX1_climb_86 : decode cX1_climb 86 = .ok (.aload_n 1, 1) := by decide +kernel
theorem dX1_climb_87 : decode cX1_climb 87 = .ok (.getfield 48, 3) := by decide +kernel
theorem dX1_climb_90 : decode cX1_climb 90 = .ok (.iconst 1, 1) := by decide +kernel
theorem dX1_climb_91 : decode cX1_climb 91 = .ok (.isub, 1) := by decide +kernel
theorem dX1_climb_92 : decode cX1_climb 92 = .ok (.aload_n 1, 1) := by decide +kernel
theorem dX1_climb_93 : decode cX1_climb 93 = .ok (.getfield 68, 3) := by decide +kernel
theorem dX1_climb_96 : decode cX1_climb 96 = .ok (.invokevirtual 71, 3) := by decide +kernel
theorem dX1_climb_99 : decode cX1_climb 99 = .ok (.iload 4, 2) := by decide +kernel
theorem dX1_climb_101 : decode cX1_climb 101 = .ok (.ireturn, 1) := by decide +kernel
theorem dX1_rub_0 : decode cX1_rub 0 = .ok (.iconst 0, 1) := by decide +kernel
theorem dX1_rub_1 : decode cX1_rub 1 = .ok (.istore_n 3, 1) := by decide +kernel
theorem dX1_rub_2 : decode cX1_rub 2 = .ok (.iconst 0, 1) := by decide +kernel
theorem dX1_rub_3 : decode cX1_rub 3 = .ok (.istore 4, 2) := by decide +kernel
theorem dX1_rub_5 : decode cX1_rub 5 = .ok (.iload 4, 2) := by decide +kernel
theorem dX1_rub_7 : decode cX1_rub 7 = .ok (.iload_n 1, 1) := by decide +kernel
theorem dX1_rub_8 : decode cX1_rub 8 = .ok (.if_icmp .ge 49, 3) := by decide +kernel
theorem dX1_rub_11 : decode cX1_rub 11 = .ok (.iload 4, 2) := by decide +kernel
theorem dX1_rub_13 : decode cX1_rub 13 = .ok (.aload_n 0, 1) := by decide +kernel
theorem dX1_rub_14 : decode cX1_rub 14 = .ok (.getfield 9, 3) := by decide +kernel
theorem dX1_rub_17 : decode cX1_rub 17 = .ok (.arraylength, 1) := by decide +kernel
theorem dX1_rub_18 : decode cX1_rub 18 = .ok (.if_icmp .ge 39, 3) := by decide +kernel
theorem dX1_rub_21 : decode cX1_rub 21 = .ok (.iload_n 2, 1) := by decide +kernel
theorem dX1_rub_22 : decode cX1_rub 22 = .ok (.aload_n 0, 1) := by decide +kernel
theorem dX1_rub_23 : decode cX1_rub 23 = .ok (.getfield 9, 3) := by decide +kernel
theorem dX1_rub_26 : decode cX1_rub 26 = .ok (.iload 4, 2) := by decide +kernel
theorem dX1_rub_28 : decode cX1_rub 28 = .ok (.iaload, 1) := by decide +kernel
theorem dX1_rub_29 : decode cX1_rub 29 = .ok (.invokestatic 38, 3) := by decide +kernel
theorem dX1_rub_32 : decode cX1_rub 32 = .ok (.istore 5, 2) := by decide +kernel
theorem dX1_rub_34 : decode cX1_rub 34 = .ok (.aload_n 0, 1) := by decide +kernel
theorem dX1_rub_35 : decode cX1_rub 35 = .ok (.getfield 9, 3) := by decide +kernel
theorem dX1_rub_38 : decode cX1_rub 38 = .ok (.iload 4, 2) := by decide +kernel
theorem dX1_rub_40 : decode cX1_rub 40 = .ok (.dup2, 1) := by decide +kernel
theorem dX1_rub_41 : decode cX1_rub 41 = .ok (.iaload, 1) := by decide +kernel
theorem dX1_rub_42 : decode cX1_rub 42 = .ok (.iload 5, 2) := by decide +kernel
theorem dX1_rub_44 : decode cX1_rub 44 = .ok (.isub, 1) := by decide +kernel
theorem dX1_rub_45 : decode cX1_rub 45 = .ok (.iastore, 1) := by decide +kernel
theorem dX1_rub_46 : decode cX1_rub 46 = .ok (.iload_n 3, 1) := by decide +kernel
theorem dX1_rub_47 : decode cX1_rub 47 = .ok (.iload 5, 2) := by decide +kernel
theorem dX1_rub_49 : decode cX1_rub 49 = .ok (.iadd, 1) := by decide +kernel
theorem dX1_rub_50 : decode cX1_rub 50 = .ok (.istore_n 3, 1) := by decide +kernel
theorem dX1_rub_51 : decode cX1_rub 51 = .ok (.iinc 4 1, 3) := by decide +kernel
theorem dX1_rub_54 : decode cX1_rub 54 = .ok (.goto (-49), 3) := by decide +kernel
theorem dX1_rub_57 : decode cX1_rub 57 = .ok (.iload_n 3, 1) := by decide +kernel
theorem dX1_rub_58 : decode cX1_rub 58 = .ok (.ireturn, 1) := by decide +kernel
theorem dX1_smear_0 : decode cX1_smear 0 = .ok (.iload_n 1, 1) := by decide +kernel
theorem dX1_smear_1 : decode cX1_smear 1 = .ok (.ifCond .gt 4, 3) := by decide +kernel
theorem dX1_smear_4 : decode cX1_smear 4 = .ok (.return_, 1) := by decide +kernel
theorem dX1_smear_5 : decode cX1_smear 5 = .ok (.iload_n 2, 1) := by decide +kernel
theorem dX1_smear_6 : decode cX1_smear 6 = .ok (.iload_n 1, 1) := by decide +kernel
theorem dX1_smear_7 : decode cX1_smear 7 = .ok (.idiv, 1) := by decide +kernel
theorem dX1_smear_8 : decode cX1_smear 8 = .ok (.istore_n 3, 1) := by decide +kernel
theorem dX1_smear_9 : decode cX1_smear 9 = .ok (.iload_n 2, 1) := by decide +kernel
theorem dX1_smear_10 : decode cX1_smear 10 = .ok (.iload_n 1, 1) := by decide +kernel
theorem dX1_smear_11 : decode cX1_smear 11 = .ok (.irem, 1) := by decide +kernel
theorem dX1_smear_12 : decode cX1_smear 12 = .ok (.istore 4, 2) := by decide +kernel
theorem dX1_smear_14 : decode cX1_smear 14 = .ok (.iconst 0, 1) := by decide +kernel
theorem dX1_smear_15 : decode cX1_smear 15 = .ok (.istore 5, 2) := by decide +kernel
theorem dX1_smear_17 : decode cX1_smear 17 = .ok (.iload 5, 2) := by decide +kernel
theorem dX1_smear_19 : decode cX1_smear 19 = .ok (.iload_n 1, 1) := by decide +kernel
theorem dX1_smear_20 : decode cX1_smear 20 = .ok (.if_icmp .ge 57, 3) := by decide +kernel
theorem dX1_smear_23 : decode cX1_smear 23 = .ok (.iload 5, 2) := by decide +kernel
theorem dX1_smear_25 : decode cX1_smear 25 = .ok (.aload_n 0, 1) := by decide +kernel
theorem dX1_smear_26 : decode cX1_smear 26 = .ok (.getfield 9, 3) := by decide +kernel
theorem dX1_smear_29 : decode cX1_smear 29 = .ok (.arraylength, 1) := by decide +kernel
theorem dX1_smear_30 : decode cX1_smear 30 = .ok (.if_icmp .ge 47, 3) := by decide +kernel
theorem dX1_smear_33 : decode cX1_smear 33 = .ok (.iload 5, 2) := by decide +kernel
theorem dX1_smear_35 : decode cX1_smear 35 = .ok (.iload 4, 2) := by decide +kernel
theorem dX1_smear_37 : decode cX1_smear 37 = .ok (.if_icmp .ge 9, 3) := by decide +kernel
theorem dX1_smear_40 : decode cX1_smear 40 = .ok (.iload_n 3, 1) := by decide +kernel
theorem dX1_smear_41 : decode cX1_smear 41 = .ok (.iconst 1, 1) := by decide +kernel
theorem dX1_smear_42 : decode cX1_smear 42 = .ok (.iadd, 1) := by decide +kernel
theorem dX1_smear_43 : decode cX1_smear 43 = .ok (.goto 4, 3) := by decide +kernel
theorem dX1_smear_46 : decode cX1_smear 46 = .ok (.iload_n 3, 1) := by decide +kernel
theorem dX1_smear_47 : decode cX1_smear 47 = .ok (.istore 6, 2) := by decide +kernel
theorem dX1_smear_49 : decode cX1_smear 49 = .ok (.aload_n 0, 1) := by decide +kernel
theorem dX1_smear_50 : decode cX1_smear 50 = .ok (.getfield 9, 3) := by decide +kernel
theorem dX1_smear_53 : decode cX1_smear 53 = .ok (.iload 5, 2) := by decide +kernel
theorem dX1_smear_55 : decode cX1_smear 55 = .ok (.bipush 99, 2) := by decide +kernel
theorem dX1_smear_57 : decode cX1_smear 57 = .ok (.aload_n 0, 1) := by decide +kernel
theorem dX1_smear_58 : decode cX1_smear 58 = .ok (.getfield 9, 3) := by decide +kernel
theorem dX1_smear_61 : decode cX1_smear 61 = .ok (.iload 5, 2) := by decide +kernel
theorem dX1_smear_63 : decode cX1_smear 63 = .ok (.iaload, 1) := by decide +kernel
theorem dX1_smear_64 : decode cX1_smear 64 = .ok (.iload 6, 2) := by decide +kernel
theorem dX1_smear_66 : decode cX1_smear 66 = .ok (.iadd, 1) := by decide +kernel
theorem dX1_smear_67 : decode cX1_smear 67 = .ok (.invokestatic 38, 3) := by decide +kernel
theorem dX1_smear_70 : decode cX1_smear 70 = .ok (.iastore, 1) := by decide +kernel
theorem dX1_smear_71 : decode cX1_smear 71 = .ok (.iinc 5 1, 3) := by decide +kernel
theorem dX1_smear_74 : decode cX1_smear 74 = .ok (.goto (-57), 3) := by decide +kernel
theorem dX1_smear_77 : decode cX1_smear 77 = .ok (.return_, 1) := by decide +kernel
theorem dX1_draw_0 : decode cX1_draw 0 = .ok (.aload_n 0, 1) := by decide +kernel
theorem dX1_draw_1 : decode cX1_draw 1 = .ok (.aload_n 0, 1) := by decide +kernel
theorem dX1_draw_2 : decode cX1_draw 2 = .ok (.getfield 22, 3) := by decide +kernel
theorem dX1_draw_5 : decode cX1_draw 5 = .ok (.ldc 75, 2) := by decide +kernel
theorem dX1_draw_7 : decode cX1_draw 7 = .ok (.imul, 1) := by decide +kernel
theorem dX1_draw_8 : decode cX1_draw 8 = .ok (.sipush 12345, 3) := by decide +kernel
theorem dX1_draw_11 : decode cX1_draw 11 = .ok (.iadd, 1) := by decide +kernel
theorem dX1_draw_12 : decode cX1_draw 12 = .ok (.ldc 76, 2) := by decide +kernel
theorem dX1_draw_14 : decode cX1_draw 14 = .ok (.iand, 1) := by decide +kernel
theorem dX1_draw_15 : decode cX1_draw 15 = .ok (.putfield 22, 3) := by decide +kernel
theorem dX1_draw_18 : decode cX1_draw 18 = .ok (.iload_n 1, 1) := by decide +kernel
theorem dX1_draw_19 : decode cX1_draw 19 = .ok (.ifCond .le 15, 3) := by decide +kernel
theorem dX1_draw_22 : decode cX1_draw 22 = .ok (.aload_n 0, 1) := by decide +kernel
theorem dX1_draw_23 : decode cX1_draw 23 = .ok (.getfield 22, 3) := by decide +kernel
theorem dX1_draw_26 : decode cX1_draw 26 = .ok (.ldc 77, 2) := by decide +kernel
theorem dX1_draw_28 : decode cX1_draw 28 = .ok (.idiv, 1) := by decide +kernel
theorem dX1_draw_29 : decode cX1_draw 29 = .ok (.iload_n 1, 1) := by decide +kernel
theorem dX1_draw_30 : decode cX1_draw 30 = .ok (.irem, 1) := by decide +kernel
theorem dX1_draw_31 : decode cX1_draw 31 = .ok (.goto 4, 3) := by decide +kernel
theorem dX1_draw_34 : decode cX1_draw 34 = .ok (.iconst 0, 1) := by decide +kernel
theorem dX1_draw_35 : decode cX1_draw 35 = .ok (.ireturn, 1) := by decide +kernel
theorem dX2_init_0 : decode cX2_init 0 = .ok (.aload_n 0, 1) := by decide +kernel
theorem dX2_init_1 : decode cX2_init 1 = .ok (.invokespecial 3, 3) := by decide +kernel
theorem dX2_init_4 : decode cX2_init 4 = .ok (.aload_n 0, 1) := by decide +kernel
theorem dX2_init_5 : decode cX2_init 5 = .ok (.sipush 400, 3) := by decide +kernel
theorem dX2_init_8 : decode cX2_init 8 = .ok (.newarray .byte, 2) := by decide +kernel
theorem dX2_init_10 : decode cX2_init 10 = .ok (.putfield 9, 3) := by decide +kernel
theorem dX2_init_13 : decode cX2_init 13 = .ok (.aload_n 0, 1) := by decide +kernel
theorem dX2_init_14 : decode cX2_init 14 = .ok (.bipush 30, 2) := by decide +kernel
theorem dX2_init_16 : decode cX2_init 16 = .ok (.newarray .boolean, 2) := by decide +kernel
theorem dX2_init_18 : decode cX2_init 18 = .ok (.putfield 15, 3) := by decide +kernel
theorem dX2_init_21 : decode cX2_init 21 = .ok (.aload_n 0, 1) := by decide +kernel
theorem dX2_init_22 : decode cX2_init 22 = .ok (.iconst 3, 1) := by decide +kernel
theorem dX2_init_23 : decode cX2_init 23 = .ok (.newarray .int, 2) := by decide +kernel
theorem dX2_init_25 : decode cX2_init 25 = .ok (.putfield 19, 3) := by decide +kernel
theorem dX2_init_28 : decode cX2_init 28 = .ok (.aload_n 0, 1) := by decide +kernel
theorem dX2_init_29 : decode cX2_init 29 = .ok (.iconst (-1), 1) := by decide +kernel
theorem dX2_init_30 : decode cX2_init 30 = .ok (.putfield 23, 3) := by decide +kernel
theorem dX2_init_33 : decode cX2_init 33 = .ok (.return_, 1) := by decide +kernel
theorem dX2_room_0 : decode cX2_room 0 = .ok (.aload_n 0, 1) := by decide +kernel
theorem dX2_room_1 : decode cX2_room 1 = .ok (.getfield 9, 3) := by decide +kernel
theorem dX2_room_4 : decode cX2_room 4 = .ok (.arraylength, 1) := by decide +kernel
theorem dX2_room_5 : decode cX2_room 5 = .ok (.aload_n 0, 1) := by decide +kernel
theorem dX2_room_6 : decode cX2_room 6 = .ok (.getfield 27, 3) := by decide +kernel
theorem dX2_room_9 : decode cX2_room 9 = .ok (.isub, 1) := by decide +kernel
theorem dX2_room_10 : decode cX2_room 10 = .ok (.ireturn, 1) := by decide +kernel
theorem dX2_append_0 : decode cX2_append 0 = .ok (.iload_n 1, 1) := by decide +kernel
theorem dX2_append_1 : decode cX2_append 1 = .ok (.iconst 1, 1) := by decide +kernel
theorem dX2_append_2 : decode cX2_append 2 = .ok (.isub, 1) := by decide +kernel
theorem dX2_append_3 : decode cX2_append 3 = .ok (.istore 4, 2) := by decide +kernel
theorem dX2_append_5 : decode cX2_append 5 = .ok (.iload 4, 2) := by decide +kernel
theorem dX2_append_7 : decode cX2_append 7 = .ok (.ifCond .lt 49, 3) := by decide +kernel
theorem dX2_append_10 : decode cX2_append 10 = .ok (.aload_n 0, 1) := by decide +kernel
theorem dX2_append_11 : decode cX2_append 11 = .ok (.getfield 27, 3) := by decide +kernel
theorem dX2_append_14 : decode cX2_append 14 = .ok (.aload_n 0, 1) := by decide +kernel
theorem dX2_append_15 : decode cX2_append 15 = .ok (.getfield 9, 3) := by decide +kernel
theorem dX2_append_18 : decode cX2_append 18 = .ok (.arraylength, 1) := by decide +kernel
theorem dX2_append_19 : decode cX2_append 19 = .ok (.if_icmp .ge 37, 3) := by decide +kernel
theorem dX2_append_22 : decode cX2_append 22 = .ok (.aload_n 0, 1) := by decide +kernel
theorem dX2_append_23 : decode cX2_append 23 = .ok (.getfield 9, 3) := by decide +kernel
theorem dX2_append_26 : decode cX2_append 26 = .ok (.aload_n 0, 1) := by decide +kernel
theorem dX2_append_27 : decode cX2_append 27 = .ok (.getfield 27, 3) := by decide +kernel
theorem dX2_append_30 : decode cX2_append 30 = .ok (.lload_n 2, 1) := by decide +kernel
theorem dX2_append_31 : decode cX2_append 31 = .ok (.bipush 8, 2) := by decide +kernel
theorem dX2_append_33 : decode cX2_append 33 = .ok (.iload 4, 2) := by decide +kernel
theorem dX2_append_35 : decode cX2_append 35 = .ok (.imul, 1) := by decide +kernel
theorem dX2_append_36 : decode cX2_append 36 = .ok (.lshr, 1) := by decide +kernel
theorem dX2_append_37 : decode cX2_append 37 = .ok (.l2i, 1) := by decide +kernel
theorem dX2_append_38 : decode cX2_append 38 = .ok (.i2b, 1) := by decide +kernel
theorem dX2_append_39 : decode cX2_append 39 = .ok (.bastore, 1) := by decide +kernel
theorem dX2_append_40 : decode cX2_append 40 = .ok (.aload_n 0, 1) := by decide +kernel
theorem dX2_append_41 : decode cX2_append 41 = .ok (.dup, 1) := by decide +kernel
theorem dX2_append_42 : decode cX2_append 42 = .ok (.getfield 27, 3) := by decide +kernel
theorem dX2_append_45 : decode cX2_append 45 = .ok (.iconst 1, 1) := by decide +kernel
theorem dX2_append_46 : decode cX2_append 46 = .ok (.iadd, 1) := by decide +kernel
theorem dX2_append_47 : decode cX2_append 47 = .ok (.putfield 27, 3) := by decide +kernel
theorem dX2_append_50 : decode cX2_append 50 = .ok (.iinc 4 (-1), 3) := by decide +kernel
theorem dX2_append_53 : decode cX2_append 53 = .ok (.goto (-48), 3) := by decide +kernel
theorem dX2_append_56 : decode cX2_append 56 = .ok (.aload_n 0, 1) := by decide +kernel
theorem dX2_append_57 : decode cX2_append 57 = .ok (.getfield 27, 3) := by decide +kernel
theorem dX2_append_60 : decode cX2_append 60 = .ok (.ireturn, 1) := by decide +kernel
theorem dX2_empty_0 : decode cX2_empty 0 = .ok (.aload_n 0, 1) := by decide +kernel
theorem dX2_empty_1 : decode cX2_empty 1 = .ok (.iconst 0, 1) := by decide +kernel
theorem dX2_empty_2 : decode cX2_empty 2 = .ok (.putfield 27, 3) := by decide +kernel
theorem dX2_empty_5 : decode cX2_empty 5 = .ok (.return_, 1) := by decide +kernel
theorem dX2_read_0 : decode cX2_read 0 = .ok (.aload_n 0, 1) := by decide +kernel
theorem dX2_read_1 : decode cX2_read 1 = .ok (.invokevirtual 30, 3) := by decide +kernel
theorem dX2_read_4 : decode cX2_read 4 = .ok (.aload_n 1, 1) := by decide +kernel
theorem dX2_read_5 : decode cX2_read 5 = .ok (.invokevirtual 33, 3) := by decide +kernel
theorem dX2_read_8 : decode cX2_read 8 = .ok (.aload_n 0, 1) := by decide +kernel
theorem dX2_read_9 : decode cX2_read 9 = .ok (.invokevirtual 38, 3) := by decide +kernel
theorem dX2_read_12 : decode cX2_read 12 = .ok (.iconst 0, 1) := by decide +kernel
theorem dX2_read_13 : decode cX2_read 13 = .ok (.istore_n 2, 1) := by decide +kernel
theorem dX2_read_14 : decode cX2_read 14 = .ok (.iload_n 2, 1) := by decide +kernel
theorem dX2_read_15 : decode cX2_read 15 = .ok (.aload_n 0, 1) := by decide +kernel
theorem dX2_read_16 : decode cX2_read 16 = .ok (.getfield 9, 3) := by decide +kernel
theorem dX2_read_19 : decode cX2_read 19 = .ok (.arraylength, 1) := by decide +kernel
theorem dX2_read_20 : decode cX2_read 20 = .ok (.if_icmp .ge 36, 3) := by decide +kernel
theorem dX2_read_23 : decode cX2_read 23 = .ok (.aload_n 0, 1) := by decide +kernel
theorem dX2_read_24 : decode cX2_read 24 = .ok (.getfield 41, 3) := by decide +kernel
theorem dX2_read_27 : decode cX2_read 27 = .ok (.ifCond .ne 29, 3) := by decide +kernel
theorem dX2_read_30 : decode cX2_read 30 = .ok (.aload_n 0, 1) := by decide +kernel
theorem dX2_read_31 : decode cX2_read 31 = .ok (.getfield 44, 3) := by decide +kernel
theorem dX2_read_34 : decode cX2_read 34 = .ok (.aload_n 0, 1) := by decide +kernel
theorem dX2_read_35 : decode cX2_read 35 = .ok (.getfield 27, 3) := by decide +kernel
theorem dX2_read_38 : decode cX2_read 38 = .ok (.if_icmp .ge 18, 3) := by decide +kernel
theorem dX2_read_41 : decode cX2_read 41 = .ok (.aload_n 0, 1) := by decide +kernel
theorem dX2_read_42 : decode cX2_read 42 = .ok (.aload_n 1, 1) := by decide +kernel
theorem dX2_read_43 : decode cX2_read 43 = .ok (.invokevirtual 47, 3) := by decide +kernel
theorem dX2_read_46 : decode cX2_read 46 = .ok (.aload_n 0, 1) := by decide +kernel
theorem dX2_read_47 : decode cX2_read 47 = .ok (.invokevirtual 38, 3) := by decide +kernel
theorem dX2_read_50 : decode cX2_read 50 = .ok (.iinc 2 1, 3) := by decide +kernel
theorem dX2_read_53 : decode cX2_read 53 = .ok (.goto (-39), 3) := by decide +kernel
theorem dX2_read_56 : decode cX2_read 56 = .ok (.aload_n 0, 1) := by decide +kernel
theorem dX2_read_57 : decode cX2_read 57 = .ok (.getfield 41, 3) := by decide +kernel
theorem dX2_read_60 : decode cX2_read 60 = .ok (.ireturn, 1) := by decide +kernel
theorem dX2_start_0 : decode cX2_start 0 = .ok (.aload_n 0, 1) := by decide +kernel
theorem dX2_start_1 : decode cX2_start 1 = .ok (.iconst 0, 1) := by decide +kernel
theorem dX2_start_2 : decode cX2_start 2 = .ok (.putfield 44, 3) := by decide +kernel
theorem dX2_start_5 : decode cX2_start 5 = .ok (.aload_n 0, 1) := by decide +kernel
theorem dX2_start_6 : decode cX2_start 6 = .ok (.iconst 0, 1) := by decide +kernel
theorem dX2_start_7 : decode cX2_start 7 = .ok (.putfield 41, 3) := by decide +kernel
theorem dX2_start_10 : decode cX2_start 10 = .ok (.aload_n 0, 1) := by decide +kernel
theorem dX2_start_11 : decode cX2_start 11 = .ok (.iconst (-1), 1) := by decide +kernel
theorem dX2_start_12 : decode cX2_start 12 = .ok (.putfield 23, 3) := by decide +kernel
theorem dX2_start_15 : decode cX2_start 15 = .ok (.aload_n 0, 1) := by decide +kernel
theorem dX2_start_16 : decode cX2_start 16 = .ok (.iconst 0, 1) := by decide +kernel
theorem dX2_start_17 : decode cX2_start 17 = .ok (.putfield 51, 3) := by decide +kernel
theorem dX2_start_20 : decode cX2_start 20 = .ok (.aload_n 0, 1) := by decide +kernel
theorem dX2_start_21 : decode cX2_start 21 = .ok (.iconst 0, 1) := by decide +kernel
theorem dX2_start_22 : decode cX2_start 22 = .ok (.putfield 54, 3) := by decide +kernel
theorem dX2_start_25 : decode cX2_start 25 = .ok (.aload_n 0, 1) := by decide +kernel
theorem dX2_start_26 : decode cX2_start 26 = .ok (.iconst 0, 1) := by decide +kernel
theorem dX2_start_27 : decode cX2_start 27 = .ok (.putfield 58, 3) := by decide +kernel
theorem dX2_start_30 : decode cX2_start 30 = .ok (.aload_n 0, 1) := by decide +kernel
theorem dX2_start_31 : decode cX2_start 31 = .ok (.iconst 0, 1) := by decide +kernel
theorem dX2_start_32 : decode cX2_start 32 = .ok (.putfield 61, 3) := by decide +kernel
theorem dX2_start_35 : decode cX2_start 35 = .ok (.iconst 0, 1) := by decide +kernel
theorem dX2_start_36 : decode cX2_start 36 = .ok (.istore_n 1, 1) := by decide +kernel
theorem dX2_start_37 : decode cX2_start 37 = .ok (.iload_n 1, 1) := by decide +kernel
theorem dX2_start_38 : decode cX2_start 38 = .ok (.aload_n 0, 1) := by decide +kernel
theorem dX2_start_39 : decode cX2_start 39 = .ok (.getfield 15, 3) := by decide +kernel
theorem dX2_start_42 : decode cX2_start 42 = .ok (.arraylength, 1) := by decide +kernel
theorem dX2_start_43 : decode cX2_start 43 = .ok (.if_icmp .ge 16, 3) := by decide +kernel
theorem dX2_start_46 : decode cX2_start 46 = .ok (.aload_n 0, 1) := by decide +kernel
theorem dX2_start_47 : decode cX2_start 47 = .ok (.getfield 15, 3) := by decide +kernel
theorem dX2_start_50 : decode cX2_start 50 = .ok (.iload_n 1, 1) := by decide +kernel
theorem dX2_start_51 : decode cX2_start 51 = .ok (.iconst 0, 1) := by decide +kernel
theorem dX2_start_52 : decode cX2_start 52 = .ok (.bastore, 1) := by decide +kernel
theorem dX2_start_53 : decode cX2_start 53 = .ok (.iinc 1 1, 3) := by decide +kernel
theorem dX2_start_56 : decode cX2_start 56 = .ok (.goto (-19), 3) := by decide +kernel
theorem dX2_start_59 : decode cX2_start 59 = .ok (.return_, 1) := by decide +kernel
theorem dX2_fail_0 : decode cX2_fail 0 = .ok (.aload_n 0, 1) := by decide +kernel
theorem dX2_fail_1 : decode cX2_fail 1 = .ok (.getfield 41, 3) := by decide +kernel
theorem dX2_fail_4 : decode cX2_fail 4 = .ok (.ifCond .ne 13, 3) := by decide +kernel
theorem dX2_fail_7 : decode cX2_fail 7 = .ok (.aload_n 0, 1) := by decide +kernel
theorem dX2_fail_8 : decode cX2_fail 8 = .ok (.iload_n 1, 1) := by decide +kernel
theorem dX2_fail_9 : decode cX2_fail 9 = .ok (.putfield 41, 3) := by decide +kernel
theorem dX2_fail_12 : decode cX2_fail 12 = .ok (.aload_n 0, 1) := by decide +kernel
theorem dX2_fail_13 : decode cX2_fail 13 = .ok (.iload_n 2, 1) := by decide +kernel
theorem dX2_fail_14 : decode cX2_fail 14 = .ok (.putfield 23, 3) := by decide +kernel
theorem dX2_fail_17 : decode cX2_fail 17 = .ok (.return_, 1) := by decide +kernel
theorem dX2_readClause_0 : decode cX2_readClause 0 = .ok (.aload_n 0, 1) := by decide +kernel
theorem dX2_readClause_1 : decode cX2_readClause 1 = .ok (.getfield 44, 3) := by decide +kernel
theorem dX2_readClause_4 : decode cX2_readClause 4 = .ok (.istore_n 2, 1) := by decide +kernel
theorem dX2_readClause_5 : decode cX2_readClause 5 = .ok (.aload_n 0, 1) := by decide +kernel
theorem dX2_readClause_6 : decode cX2_readClause 6 = .ok (.invokevirtual 64, 3) := by decide +kernel
theorem dX2_readClause_9 : decode cX2_readClause 9 = .ok (.aload_n 0, 1) := by decide +kernel
theorem dX2_readClause_10 : decode cX2_readClause 10 = .ok (.iload_n 2, 1) := by decide +kernel
theorem dX2_readClause_11 : decode cX2_readClause 11 = .ok (.aload_n 0, 1) := by decide +kernel
theorem dX2_readClause_12 : decode cX2_readClause 12 = .ok (.getfield 44, 3) := by decide +kernel
theorem dX2_readClause_15 : decode cX2_readClause 15 = .ok (.invokevirtual 67, 3) := by decide +kernel
theorem dX2_readClause_18 : decode cX2_readClause 18 = .ok (.istore_n 3, 1) := by decide +kernel
theorem dX2_readClause_19 : decode cX2_readClause 19 = .ok (.iload_n 3, 1) := by decide +kernel
theorem dX2_readClause_20 : decode cX2_readClause 20 = .ok (.ifCond .eq 15, 3) := by decide +kernel
theorem dX2_readClause_23 : decode cX2_readClause 23 = .ok (.iload_n 3, 1) := by decide +kernel
theorem dX2_readClause_24 : decode cX2_readClause 24 = .ok (.iconst 1, 1) := by decide +kernel
theorem dX2_readClause_25 : decode cX2_readClause 25 = .ok (.if_icmp .eq 17, 3) := by decide +kernel
theorem dX2_readClause_28 : decode cX2_readClause 28 = .ok (.aload_n 0, 1) := by decide +kernel
theorem dX2_readClause_29 : decode cX2_readClause 29 = .ok (.getfield 54, 3) := by decide +kernel
theorem dX2_readClause_32 : decode cX2_readClause 32 = .ok (.ifCond .ne 10, 3) := by decide +kernel
theorem dX2_readClause_35 : decode cX2_readClause 35 = .ok (.aload_n 0, 1) := by decide +kernel
theorem dX2_readClause_36 : decode cX2_readClause 36 = .ok (.iconst 1, 1) := by decide +kernel
theorem dX2_readClause_37 : decode cX2_readClause 37 = .ok (.iload_n 2, 1) := by decide +kernel
theorem dX2_readClause_38 : decode cX2_readClause 38 = .ok (.invokevirtual 71, 3) := by decide +kernel
theorem dX2_readClause_41 : decode cX2_readClause 41 = .ok (.return_, 1) := by decide +kernel
theorem dX2_readClause_42 : decode cX2_readClause 42 = .ok (.aload_n 0, 1) := by decide +kernel
theorem dX2_readClause_43 : decode cX2_readClause 43 = .ok (.iload_n 3, 1) := by decide +kernel
theorem dX2_readClause_44 : decode cX2_readClause 44 = .ok (.aload_n 1, 1) := by decide +kernel
theorem dX2_readClause_45 : decode cX2_readClause 45 = .ok (.invokevirtual 75, 3) := by decide +kernel
theorem dX2_readClause_48 : decode cX2_readClause 48 = .ok (.ifCond .eq 10, 3) := by decide +kernel
theorem dX2_readClause_51 : decode cX2_readClause 51 = .ok (.aload_n 0, 1) := by decide +kernel
theorem dX2_readClause_52 : decode cX2_readClause 52 = .ok (.iconst 3, 1) := by decide +kernel
theorem dX2_readClause_53 : decode cX2_readClause 53 = .ok (.iload_n 2, 1) := by decide +kernel
theorem dX2_readClause_54 : decode cX2_readClause 54 = .ok (.invokevirtual 71, 3) := by decide +kernel
theorem dX2_readClause_57 : decode cX2_readClause 57 = .ok (.return_, 1) := by decide +kernel
theorem dX2_readClause_58 : decode cX2_readClause 58 = .ok (.iload_n 3, 1) := by decide +kernel
theorem dX2_readClause_59 : decode cX2_readClause 59 = .ok (.iconst 3, 1) := by decide +kernel
theorem dX2_readClause_60 : decode cX2_readClause 60 = .ok (.if_icmp .ne 7, 3) := by decide +kernel
theorem dX2_readClause_63 : decode cX2_readClause 63 = .ok (.iconst 3, 1) := by decide +kernel
theorem dX2_readClause_64 : decode cX2_readClause 64 = .ok (.goto 4, 3) := by decide +kernel
theorem dX2_readClause_67 : decode cX2_readClause 67 = .ok (.iconst 2, 1) := by decide +kernel
theorem dX2_readClause_68 : decode cX2_readClause 68 = .ok (.istore 4, 2) := by decide +kernel
theorem dX2_readClause_70 : decode cX2_readClause 70 = .ok (.iconst 0, 1) := by decide +kernel
theorem dX2_readClause_71 : decode cX2_readClause 71 = .ok (.istore 5, 2) := by decide +kernel
theorem dX2_readClause_73 : decode cX2_readClause 73 = .ok (.iload 5, 2) := by decide +kernel
theorem dX2_readClause_75 : decode cX2_readClause 75 = .ok (.iload 4, 2) := by decide +kernel
theorem dX2_readClause_77 : decode cX2_readClause 77 = .ok (.if_icmp .ge 34, 3) := by decide +kernel
theorem dX2_readClause_80 : decode cX2_readClause 80 = .ok (.iload 5, 2) := by decide +kernel
theorem dX2_readClause_82 : decode cX2_readClause 82 = .ok (.aload_n 0, 1) := by decide +kernel
theorem dX2_readClause_83 : decode cX2_readClause 83 = .ok (.getfield 19, 3) := by decide +kernel
theorem dX2_readClause_86 : decode cX2_readClause 86 = .ok (.arraylength, 1) := by decide +kernel
theorem dX2_readClause_87 : decode cX2_readClause 87 = .ok (.if_icmp .ge 24, 3) := by decide +kernel
theorem dX2_readClause_90 : decode cX2_readClause 90 = .ok (.aload_n 0, 1) := by decide +kernel
theorem dX2_readClause_91 : decode cX2_readClause 91 = .ok (.getfield 41, 3) := by decide +kernel
theorem dX2_readClause_94 : decode cX2_readClause 94 = .ok (.ifCond .ne 17, 3) := by decide +kernel
theorem dX2_readClause_97 : decode cX2_readClause 97 = .ok (.aload_n 0, 1) := by decide +kernel
theorem dX2_readClause_98 : decode cX2_readClause 98 = .ok (.iload_n 3, 1) := by decide +kernel
theorem dX2_readClause_99 : decode cX2_readClause 99 = .ok (.iload 5, 2) := by decide +kernel
theorem dX2_readClause_101 : decode cX2_readClause 101 = .ok (.aload_n 1, 1) := by decide +kernel
theorem dX2_readClause_102 : decode cX2_readClause 102 = .ok (.invokevirtual 79, 3) := by decide +kernel
theorem dX2_readClause_105 : decode cX2_readClause 105 = .ok (.iinc 5 1, 3) := by decide +kernel
theorem dX2_readClause_108 : decode cX2_readClause 108 = .ok (.goto (-35), 3) := by decide +kernel
theorem dX2_readClause_111 : decode cX2_readClause 111 = .ok (.aload_n 0, 1) := by decide +kernel
theorem dX2_readClause_112 : decode cX2_readClause 112 = .ok (.invokevirtual 83, 3) := by decide +kernel
theorem dX2_readClause_115 : decode cX2_readClause 115 = .ok (.aload_n 0, 1) := by decide +kernel
theorem dX2_readClause_116 : decode cX2_readClause 116 = .ok (.getfield 41, 3) := by decide +kernel
theorem dX2_readClause_119 : decode cX2_readClause 119 = .ok (.ifCond .ne 9, 3) := by decide +kernel
theorem dX2_readClause_122 : decode cX2_readClause 122 = .ok (.aload_n 0, 1) := by decide +kernel
theorem dX2_readClause_123 : decode cX2_readClause 123 = .ok (.iload_n 3, 1) := by decide +kernel
theorem dX2_readClause_124 : decode cX2_readClause 124 = .ok (.aload_n 1, 1) := by decide +kernel
theorem dX2_readClause_125 : decode cX2_readClause 125 = .ok (.invokevirtual 86, 3) := by decide +kernel
theorem dX2_readClause_128 : decode cX2_readClause 128 = .ok (.return_, 1) := by decide +kernel
theorem dX2_kindOf_0 : decode cX2_kindOf 0 = .ok (.aload_n 0, 1) := by decide +kernel
theorem dX2_kindOf_1 : decode cX2_kindOf 1 = .ok (.ldc 90, 2) := by decide +kernel
theorem dX2_kindOf_3 : decode cX2_kindOf 3 = .ok (.iload_n 1, 1) := by decide +kernel
theorem dX2_kindOf_4 : decode cX2_kindOf 4 = .ok (.iload_n 2, 1) := by decide +kernel
theorem dX2_kindOf_5 : decode cX2_kindOf 5 = .ok (.invokevirtual 92, 3) := by decide +kernel
theorem dX2_kindOf_8 : decode cX2_kindOf 8 = .ok (.ifCond .eq 5, 3) := by decide +kernel
theorem dX2_kindOf_11 : decode cX2_kindOf 11 = .ok (.iconst 1, 1) := by decide +kernel
theorem dX2_kindOf_12 : decode cX2_kindOf 12 = .ok (.ireturn, 1) := by decide +kernel
theorem dX2_kindOf_13 : decode cX2_kindOf 13 = .ok (.aload_n 0, 1) := by decide +kernel
theorem dX2_kindOf_14 : decode cX2_kindOf 14 = .ok (.ldc 96, 2) := by decide +kernel
theorem dX2_kindOf_16 : decode cX2_kindOf 16 = .ok (.iload_n 1, 1) := by decide +kernel
theorem dX2_kindOf_17 : decode cX2_kindOf 17 = .ok (.iload_n 2, 1) := by decide +kernel
theorem dX2_kindOf_18 : decode cX2_kindOf 18 = .ok (.invokevirtual 92, 3) := by decide +kernel
theorem dX2_kindOf_21 : decode cX2_kindOf 21 = .ok (.ifCond .eq 5, 3) := by decide +kernel
theorem dX2_kindOf_24 : decode cX2_kindOf 24 = .ok (.iconst 2, 1) := by decide +kernel
theorem dX2_kindOf_25 : decode cX2_kindOf 25 = .ok (.ireturn, 1) := by decide +kernel
theorem dX2_kindOf_26 : decode cX2_kindOf 26 = .ok (.aload_n 0, 1) := by decide +kernel
theorem dX2_kindOf_27 : decode cX2_kindOf 27 = .ok (.ldc 98, 2) := by decide +kernel
theorem dX2_kindOf_29 : decode cX2_kindOf 29 = .ok (.iload_n 1, 1) := by decide +kernel
theorem dX2_kindOf_30 : decode cX2_kindOf 30 = .ok (.iload_n 2, 1) := by decide +kernel
theorem dX2_kindOf_31 : decode cX2_kindOf 31 = .ok (.invokevirtual 92, 3) := by decide +kernel
theorem dX2_kindOf_34 : decode cX2_kindOf 34 = .ok (.ifCond .eq 5, 3) := by decide +kernel
theorem dX2_kindOf_37 : decode cX2_kindOf 37 = .ok (.iconst 3, 1) := by decide +kernel
theorem dX2_kindOf_38 : decode cX2_kindOf 38 = .ok (.ireturn, 1) := by decide +kernel
theorem dX2_kindOf_39 : decode cX2_kindOf 39 = .ok (.aload_n 0, 1) := by decide +kernel
theorem dX2_kindOf_40 : decode cX2_kindOf 40 = .ok (.ldc 100, 2) := by decide +kernel
theorem dX2_kindOf_42 : decode cX2_kindOf 42 = .ok (.iload_n 1, 1) := by decide +kernel
theorem dX2_kindOf_43 : decode cX2_kindOf 43 = .ok (.iload_n 2, 1) := by decide +kernel
theorem dX2_kindOf_44 : decode cX2_kindOf 44 = .ok (.invokevirtual 92, 3) := by decide +kernel
theorem dX2_kindOf_47 : decode cX2_kindOf 47 = .ok (.ifCond .eq 5, 3) := by decide +kernel
theorem dX2_kindOf_50 : decode cX2_kindOf 50 = .ok (.iconst 4, 1) := by decide +kernel
theorem dX2_kindOf_51 : decode cX2_kindOf 51 = .ok (.ireturn, 1) := by decide +kernel
theorem dX2_kindOf_52 : decode cX2_kindOf 52 = .ok (.aload_n 0, 1) := by decide +kernel
theorem dX2_kindOf_53 : decode cX2_kindOf 53 = .ok (.ldc 102, 2) := by decide +kernel
theorem dX2_kindOf_55 : decode cX2_kindOf 55 = .ok (.iload_n 1, 1) := by decide +kernel
theorem dX2_kindOf_56 : decode cX2_kindOf 56 = .ok (.iload_n 2, 1) := by decide +kernel
theorem dX2_kindOf_57 : decode cX2_kindOf 57 = .ok (.invokevirtual 92, 3) := by decide +kernel
theorem dX2_kindOf_60 : decode cX2_kindOf 60 = .ok (.ifCond .eq 7, 3) := by decide +kernel
theorem dX2_kindOf_63 : decode cX2_kindOf 63 = .ok (.iconst 5, 1) := by decide +kernel
theorem dX2_kindOf_64 : decode cX2_kindOf 64 = .ok (.goto 4, 3) := by decide +kernel
theorem dX2_kindOf_67 : decode cX2_kindOf 67 = .ok (.iconst 0, 1) := by decide +kernel
theorem dX2_kindOf_68 : decode cX2_kindOf 68 = .ok (.ireturn, 1) := by decide +kernel
theorem dX2_isWord_0 : decode cX2_isWord 0 = .ok (.iload_n 3, 1) := by decide +kernel
theorem dX2_isWord_1 : decode cX2_isWord 1 = .ok (.iload_n 2, 1) := by decide +kernel
theorem dX2_isWord_2 : decode cX2_isWord 2 = .ok (.isub, 1) := by decide +kernel
theorem dX2_isWord_3 : decode cX2_isWord 3 = .ok (.aload_n 1, 1) := by decide +kernel
theorem dX2_isWord_4 : decode cX2_isWord 4 = .ok (.invokevirtual 104, 3) := by decide +kernel
theorem dX2_isWord_7 : decode cX2_isWord 7 = .ok (.if_icmp .eq 5, 3) := by decide +kernel
theorem dX2_isWord_10 : decode cX2_isWord 10 = .ok (.iconst 0, 1) := by decide +kernel
theorem dX2_isWord_11 : decode cX2_isWord 11 = .ok (.ireturn, 1) := by decide +kernel
theorem dX2_isWord_12 : decode cX2_isWord 12 = .ok (.iconst 0, 1) := by decide +kernel
theorem dX2_isWord_13 : decode cX2_isWord 13 = .ok (.istore 4, 2) := by decide +kernel
theorem dX2_isWord_15 : decode cX2_isWord 15 = .ok (.iload 4, 2) := by decide +kernel
theorem dX2_isWord_17 : decode cX2_isWord 17 = .ok (.aload_n 1, 1) := by decide +kernel
theorem dX2_isWord_18 : decode cX2_isWord 18 = .ok (.invokevirtual 104, 3) := by decide +kernel
theorem dX2_isWord_21 : decode cX2_isWord 21 = .ok (.if_icmp .ge 28, 3) := by decide +kernel
theorem dX2_isWord_24 : decode cX2_isWord 24 = .ok (.aload_n 0, 1) := by decide +kernel
theorem dX2_isWord_25 : decode cX2_isWord 25 = .ok (.iload_n 2, 1) := by decide +kernel
theorem dX2_isWord_26 : decode cX2_isWord 26 = .ok (.iload 4, 2) := by decide +kernel
theorem dX2_isWord_28 : decode cX2_isWord 28 = .ok (.iadd, 1) := by decide +kernel
theorem dX2_isWord_29 : decode cX2_isWord 29 = .ok (.invokevirtual 109, 3) := by decide +kernel
theorem dX2_isWord_32 : decode cX2_isWord 32 = .ok (.aload_n 1, 1) := by decide +kernel
theorem dX2_isWord_33 : decode cX2_isWord 33 = .ok (.iload 4, 2) := by decide +kernel
theorem dX2_isWord_35 : decode cX2_isWord 35 = .ok (.invokevirtual 113, 3) := by decide +kernel
theorem dX2_isWord_38 : decode cX2_isWord 38 = .ok (.if_icmp .eq 5, 3) := by decide +kernel
theorem dX2_isWord_41 : decode cX2_isWord 41 = .ok (.iconst 0, 1) := by decide +kernel
theorem dX2_isWord_42 : decode cX2_isWord 42 = .ok (.ireturn, 1) := by decide +kernel
theorem dX2_isWord_43 : decode cX2_isWord 43 = .ok (.iinc 4 1, 3) := by decide +kernel
theorem dX2_isWord_46 : decode cX2_isWord 46 = .ok (.goto (-31), 3) := by decide +kernel
theorem dX2_isWord_49 : decode cX2_isWord 49 = .ok (.iconst 1, 1) := by decide +kernel
theorem dX2_isWord_50 : decode cX2_isWord 50 = .ok (.ireturn, 1) := by decide +kernel
theorem dX2_isTooOften_0 : decode cX2_isTooOften 0 = .ok (.iload_n 1, 1) := by decide +kernel
theorem dX2_isTooOften_1 : decode cX2_isTooOften 1 = .ok (.tableswitch 71 1 4 #[31, 36, 51, 66], 31) := by decide +kernel
theorem dX2_isTooOften_32 : decode cX2_isTooOften 32 = .ok (.aload_n 0, 1) := by decide +kernel
theorem dX2_isTooOften_33 : decode cX2_isTooOften 33 = .ok (.getfield 54, 3) := by decide +kernel
theorem dX2_isTooOften_36 : decode cX2_isTooOften 36 = .ok (.ireturn, 1) := by decide +kernel
theorem dX2_isTooOften_37 : decode cX2_isTooOften 37 = .ok (.aload_n 0, 1) := by decide +kernel
theorem dX2_isTooOften_38 : decode cX2_isTooOften 38 = .ok (.getfield 51, 3) := by decide +kernel
theorem dX2_isTooOften_41 : decode cX2_isTooOften 41 = .ok (.bipush 20, 2) := by decide +kernel
theorem dX2_isTooOften_43 : decode cX2_isTooOften 43 = .ok (.if_icmp .lt 7, 3) := by decide +kernel
theorem dX2_isTooOften_46 : decode cX2_isTooOften 46 = .ok (.iconst 1, 1) := by decide +kernel
theorem dX2_isTooOften_47 : decode cX2_isTooOften 47 = .ok (.goto 4, 3) := by decide +kernel
theorem dX2_isTooOften_50 : decode cX2_isTooOften 50 = .ok (.iconst 0, 1) := by decide +kernel
theorem dX2_isTooOften_51 : decode cX2_isTooOften 51 = .ok (.ireturn, 1) := by decide +kernel
theorem dX2_isTooOften_52 : decode cX2_isTooOften 52 = .ok (.aload_n 2, 1) := by decide +kernel
theorem dX2_isTooOften_53 : decode cX2_isTooOften 53 = .ok (.getfield 117, 3) := by decide +kernel
theorem dX2_isTooOften_56 : decode cX2_isTooOften 56 = .ok (.bipush 6, 2) := by decide +kernel
theorem dX2_isTooOften_58 : decode cX2_isTooOften 58 = .ok (.if_icmp .lt 7, 3) := by decide +kernel
theorem dX2_isTooOften_61 : decode cX2_isTooOften 61 = .ok (.iconst 1, 1) := by decide +kernel
theorem dX2_isTooOften_62 : decode cX2_isTooOften 62 = .ok (.goto 4, 3) := by decide +kernel
theorem dX2_isTooOften_65 : decode cX2_isTooOften 65 = .ok (.iconst 0, 1) := by decide +kernel
theorem dX2_isTooOften_66 : decode cX2_isTooOften 66 = .ok (.ireturn, 1) := by decide +kernel
theorem dX2_isTooOften_67 : decode cX2_isTooOften 67 = .ok (.aload_n 0, 1) := by decide +kernel
theorem dX2_isTooOften_68 : decode cX2_isTooOften 68 = .ok (.getfield 58, 3) := by decide +kernel
theorem dX2_isTooOften_71 : decode cX2_isTooOften 71 = .ok (.ireturn, 1) := by decide +kernel
theorem dX2_isTooOften_72 : decode cX2_isTooOften 72 = .ok (.aload_n 0, 1) := by decide +kernel
theorem dX2_isTooOften_73 : decode cX2_isTooOften 73 = .ok (.getfield 61, 3) := by decide +kernel
theorem dX2_isTooOften_76 : decode cX2_isTooOften 76 = .ok (.ireturn, 1) := by decide +kernel
theorem dX2_readNumber_0 : decode cX2_readNumber 0 = .ok (.aload_n 0, 1) := by decide +kernel
theorem dX2_readNumber_1 : decode cX2_readNumber 1 = .ok (.invokevirtual 38, 3) := by decide +kernel
theorem dX2_readNumber_4 : decode cX2_readNumber 4 = .ok (.aload_n 0, 1) := by decide +kernel
theorem dX2_readNumber_5 : decode cX2_readNumber 5 = .ok (.getfield 44, 3) := by decide +kernel
theorem dX2_readNumber_8 : decode cX2_readNumber 8 = .ok (.istore 4, 2) := by decide +kernel
theorem dX2_readNumber_10 : decode cX2_readNumber 10 = .ok (.iconst 0, 1) := by decide +kernel
theorem dX2_readNumber_11 : decode cX2_readNumber 11 = .ok (.istore 5, 2) := by decide +kernel
theorem dX2_readNumber_13 : decode cX2_readNumber 13 = .ok (.aload_n 0, 1) := by decide +kernel
theorem dX2_readNumber_14 : decode cX2_readNumber 14 = .ok (.getfield 44, 3) := by decide +kernel
theorem dX2_readNumber_17 : decode cX2_readNumber 17 = .ok (.aload_n 0, 1) := by decide +kernel
theorem dX2_readNumber_18 : decode cX2_readNumber 18 = .ok (.getfield 27, 3) := by decide +kernel
theorem dX2_readNumber_21 : decode cX2_readNumber 21 = .ok (.if_icmp .ge 60, 3) := by decide +kernel
theorem dX2_readNumber_24 : decode cX2_readNumber 24 = .ok (.aload_n 0, 1) := by decide +kernel
theorem dX2_readNumber_25 : decode cX2_readNumber 25 = .ok (.aload_n 0, 1) := by decide +kernel
theorem dX2_readNumber_26 : decode cX2_readNumber 26 = .ok (.getfield 44, 3) := by decide +kernel
theorem dX2_readNumber_29 : decode cX2_readNumber 29 = .ok (.invokevirtual 109, 3) := by decide +kernel
theorem dX2_readNumber_32 : decode cX2_readNumber 32 = .ok (.invokestatic 120, 3) := by decide +kernel
theorem dX2_readNumber_35 : decode cX2_readNumber 35 = .ok (.ifCond .eq 46, 3) := by decide +kernel
theorem dX2_readNumber_38 : decode cX2_readNumber 38 = .ok (.aload_n 0, 1) := by decide +kernel
theorem dX2_readNumber_39 : decode cX2_readNumber 39 = .ok (.getfield 44, 3) := by decide +kernel
theorem dX2_readNumber_42 : decode cX2_readNumber 42 = .ok (.iload 4, 2) := by decide +kernel
theorem dX2_readNumber_44 : decode cX2_readNumber 44 = .ok (.isub, 1) := by decide +kernel
theorem dX2_readNumber_45 : decode cX2_readNumber 45 = .ok (.iconst 3, 1) := by decide +kernel
theorem dX2_readNumber_46 : decode cX2_readNumber 46 = .ok (.if_icmp .ge 22, 3) := by decide +kernel
theorem dX2_readNumber_49 : decode cX2_readNumber 49 = .ok (.iload 5, 2) := by decide +kernel
theorem dX2_readNumber_51 : decode cX2_readNumber 51 = .ok (.bipush 10, 2) := by decide +kernel
theorem dX2_readNumber_53 : decode cX2_readNumber 53 = .ok (.imul, 1) := by decide +kernel
theorem dX2_readNumber_54 : decode cX2_readNumber 54 = .ok (.aload_n 0, 1) := by decide +kernel
theorem dX2_readNumber_55 : decode cX2_readNumber 55 = .ok (.aload_n 0, 1) := by decide +kernel
theorem dX2_readNumber_56 : decode cX2_readNumber 56 = .ok (.getfield 44, 3) := by decide +kernel
theorem dX2_readNumber_59 : decode cX2_readNumber 59 = .ok (.invokevirtual 109, 3) := by decide +kernel
theorem dX2_readNumber_62 : decode cX2_readNumber 62 = .ok (.iadd, 1) := by decide +kernel
theorem dX2_readNumber_63 : decode cX2_readNumber 63 = .ok (.bipush 48, 2) := by decide +kernel
theorem dX2_readNumber_65 : decode cX2_readNumber 65 = .ok (.isub, 1) := by decide +kernel
theorem dX2_readNumber_66 : decode cX2_readNumber 66 = .ok (.istore 5, 2) := by decide +kernel
theorem dX2_readNumber_68 : decode cX2_readNumber 68 = .ok (.aload_n 0, 1) := by decide +kernel
theorem dX2_readNumber_69 : decode cX2_readNumber 69 = .ok (.dup, 1) := by decide +kernel
theorem dX2_readNumber_70 : decode cX2_readNumber 70 = .ok (.getfield 44, 3) := by decide +kernel
theorem dX2_readNumber_73 : decode cX2_readNumber 73 = .ok (.iconst 1, 1) := by decide +kernel
theorem dX2_readNumber_74 : decode cX2_readNumber 74 = .ok (.iadd, 1) := by decide +kernel
theorem dX2_readNumber_75 : decode cX2_readNumber 75 = .ok (.putfield 44, 3) := by decide +kernel
theorem dX2_readNumber_78 : decode cX2_readNumber 78 = .ok (.goto (-65), 3) := by decide +kernel
theorem dX2_readNumber_81 : decode cX2_readNumber 81 = .ok (.aload_n 0, 1) := by decide +kernel
theorem dX2_readNumber_82 : decode cX2_readNumber 82 = .ok (.getfield 44, 3) := by decide +kernel
theorem dX2_readNumber_85 : decode cX2_readNumber 85 = .ok (.iload 4, 2) := by decide +kernel
theorem dX2_readNumber_87 : decode cX2_readNumber 87 = .ok (.if_icmp .ne 11, 3) := by decide +kernel
theorem dX2_readNumber_90 : decode cX2_readNumber 90 = .ok (.aload_n 0, 1) := by decide +kernel
theorem dX2_readNumber_91 : decode cX2_readNumber 91 = .ok (.iconst 1, 1) := by decide +kernel
theorem dX2_readNumber_92 : decode cX2_readNumber 92 = .ok (.iload 4, 2) := by decide +kernel
theorem dX2_readNumber_94 : decode cX2_readNumber 94 = .ok (.invokevirtual 71, 3) := by decide +kernel
theorem dX2_readNumber_97 : decode cX2_readNumber 97 = .ok (.return_, 1) := by decide +kernel
theorem dX2_readNumber_98 : decode cX2_readNumber 98 = .ok (.aload_n 0, 1) := by decide +kernel
theorem dX2_readNumber_99 : decode cX2_readNumber 99 = .ok (.getfield 44, 3) := by decide +kernel
theorem dX2_readNumber_102 : decode cX2_readNumber 102 = .ok (.iload 4, 2) := by decide +kernel
theorem dX2_readNumber_104 : decode cX2_readNumber 104 = .ok (.isub, 1) := by decide +kernel
theorem dX2_readNumber_105 : decode cX2_readNumber 105 = .ok (.iconst 3, 1) := by decide +kernel
theorem dX2_readNumber_106 : decode cX2_readNumber 106 = .ok (.if_icmp .gt 24, 3) := by decide +kernel
theorem dX2_readNumber_109 : decode cX2_readNumber 109 = .ok (.iload 5, 2) := by decide +kernel
theorem dX2_readNumber_111 : decode cX2_readNumber 111 = .ok (.iload_n 1, 1) := by decide +kernel
theorem dX2_readNumber_112 : decode cX2_readNumber 112 = .ok (.iload_n 2, 1) := by decide +kernel
theorem dX2_readNumber_113 : decode cX2_readNumber 113 = .ok (.invokestatic 124, 3) := by decide +kernel
theorem dX2_readNumber_116 : decode cX2_readNumber 116 = .ok (.if_icmp .lt 14, 3) := by decide +kernel
theorem dX2_readNumber_119 : decode cX2_readNumber 119 = .ok (.iload 5, 2) := by decide +kernel
theorem dX2_readNumber_121 : decode cX2_readNumber 121 = .ok (.iload_n 1, 1) := by decide +kernel
theorem dX2_readNumber_122 : decode cX2_readNumber 122 = .ok (.iload_n 2, 1) := by decide +kernel
theorem dX2_readNumber_123 : decode cX2_readNumber 123 = .ok (.aload_n 3, 1) := by decide +kernel
theorem dX2_readNumber_124 : decode cX2_readNumber 124 = .ok (.invokestatic 127, 3) := by decide +kernel
theorem dX2_readNumber_127 : decode cX2_readNumber 127 = .ok (.if_icmp .le 11, 3) := by decide +kernel
theorem dX2_readNumber_130 : decode cX2_readNumber 130 = .ok (.aload_n 0, 1) := by decide +kernel
theorem dX2_readNumber_131 : decode cX2_readNumber 131 = .ok (.iconst 2, 1) := by decide +kernel
theorem dX2_readNumber_132 : decode cX2_readNumber 132 = .ok (.iload 4, 2) := by decide +kernel
theorem dX2_readNumber_134 : decode cX2_readNumber 134 = .ok (.invokevirtual 71, 3) := by decide +kernel
theorem dX2_readNumber_137 : decode cX2_readNumber 137 = .ok (.return_, 1) := by decide +kernel
theorem dX2_readNumber_138 : decode cX2_readNumber 138 = .ok (.iload_n 1, 1) := by decide +kernel
theorem dX2_readNumber_139 : decode cX2_readNumber 139 = .ok (.iconst 2, 1) := by decide +kernel
theorem dX2_readNumber_140 : decode cX2_readNumber 140 = .ok (.if_icmp .ne 24, 3) := by decide +kernel
theorem dX2_readNumber_143 : decode cX2_readNumber 143 = .ok (.iload_n 2, 1) := by decide +kernel
theorem dX2_readNumber_144 : decode cX2_readNumber 144 = .ok (.ifCond .ne 20, 3) := by decide +kernel
theorem dX2_readNumber_147 : decode cX2_readNumber 147 = .ok (.aload_n 0, 1) := by decide +kernel
theorem dX2_readNumber_148 : decode cX2_readNumber 148 = .ok (.iload 5, 2) := by decide +kernel
theorem dX2_readNumber_150 : decode cX2_readNumber 150 = .ok (.invokevirtual 131, 3) := by decide +kernel
theorem dX2_readNumber_153 : decode cX2_readNumber 153 = .ok (.ifCond .eq 11, 3) := by decide +kernel
theorem dX2_readNumber_156 : decode cX2_readNumber 156 = .ok (.aload_n 0, 1) := by decide +kernel
theorem dX2_readNumber_157 : decode cX2_readNumber 157 = .ok (.iconst 4, 1) := by decide +kernel
theorem dX2_readNumber_158 : decode cX2_readNumber 158 = .ok (.iload 4, 2) := by decide +kernel
theorem dX2_readNumber_160 : decode cX2_readNumber 160 = .ok (.invokevirtual 71, 3) := by decide +kernel
theorem dX2_readNumber_163 : decode cX2_readNumber 163 = .ok (.return_, 1) := by decide +kernel
theorem dX2_readNumber_164 : decode cX2_readNumber 164 = .ok (.iload_n 2, 1) := by decide +kernel
theorem dX2_readNumber_165 : decode cX2_readNumber 165 = .ok (.ifCond .lt 20, 3) := by decide +kernel
theorem dX2_readNumber_168 : decode cX2_readNumber 168 = .ok (.iload_n 2, 1) := by decide +kernel
theorem dX2_readNumber_169 : decode cX2_readNumber 169 = .ok (.aload_n 0, 1) := by decide +kernel
theorem dX2_readNumber_170 : decode cX2_readNumber 170 = .ok (.getfield 19, 3) := by decide +kernel
theorem dX2_readNumber_173 : decode cX2_readNumber 173 = .ok (.arraylength, 1) := by decide +kernel
theorem dX2_readNumber_174 : decode cX2_readNumber 174 = .ok (.if_icmp .ge 11, 3) := by decide +kernel
theorem dX2_readNumber_177 : decode cX2_readNumber 177 = .ok (.aload_n 0, 1) := by decide +kernel
theorem dX2_readNumber_178 : decode cX2_readNumber 178 = .ok (.getfield 19, 3) := by decide +kernel
theorem dX2_readNumber_181 : decode cX2_readNumber 181 = .ok (.iload_n 2, 1) := by decide +kernel
theorem dX2_readNumber_182 : decode cX2_readNumber 182 = .ok (.iload 5, 2) := by decide +kernel
theorem dX2_readNumber_184 : decode cX2_readNumber 184 = .ok (.iastore, 1) := by decide +kernel
theorem dX2_readNumber_185 : decode cX2_readNumber 185 = .ok (.return_, 1) := by decide +kernel
theorem dX2_number_0 : decode cX2_number 0 = .ok (.iload_n 1, 1) := by decide +kernel
theorem dX2_number_1 : decode cX2_number 1 = .ok (.ifCond .lt 21, 3) := by decide +kernel
theorem dX2_number_4 : decode cX2_number 4 = .ok (.iload_n 1, 1) := by decide +kernel
theorem dX2_number_5 : decode cX2_number 5 = .ok (.aload_n 0, 1) := by decide +kernel
theorem dX2_number_6 : decode cX2_number 6 = .ok (.getfield 19, 3) := by decide +kernel
theorem dX2_number_9 : decode cX2_number 9 = .ok (.arraylength, 1) := by decide +kernel
theorem dX2_number_10 : decode cX2_number 10 = .ok (.if_icmp .ge 12, 3) := by decide +kernel
theorem dX2_number_13 : decode cX2_number 13 = .ok (.aload_n 0, 1) := by decide +kernel
theorem dX2_number_14 : decode cX2_number 14 = .ok (.getfield 19, 3) := by decide +kernel
theorem dX2_number_17 : decode cX2_number 17 = .ok (.iload_n 1, 1) := by decide +kernel
theorem dX2_number_18 : decode cX2_number 18 = .ok (.iaload, 1) := by decide +kernel
theorem dX2_number_19 : decode cX2_number 19 = .ok (.goto 4, 3) := by decide +kernel
theorem dX2_number_22 : decode cX2_number 22 = .ok (.iconst 0, 1) := by decide +kernel
theorem dX2_number_23 : decode cX2_number 23 = .ok (.ireturn, 1) := by decide +kernel
theorem dX2_least_0 : decode cX2_least 0 = .ok (.iload_n 0, 1) := by decide +kernel
theorem dX2_least_1 : decode cX2_least 1 = .ok (.tableswitch 56 1 5 #[35, 56, 45, 56, 35], 35) := by decide +kernel
theorem dX2_least_36 : decode cX2_least 36 = .ok (.iload_n 1, 1) := by decide +kernel
theorem dX2_least_37 : decode cX2_least 37 = .ok (.ifCond .ne 7, 3) := by decide +kernel
theorem dX2_least_40 : decode cX2_least 40 = .ok (.iconst 1, 1) := by decide +kernel
theorem dX2_least_41 : decode cX2_least 41 = .ok (.goto 4, 3) := by decide +kernel
theorem dX2_least_44 : decode cX2_least 44 = .ok (.iconst 0, 1) := by decide +kernel
theorem dX2_least_45 : decode cX2_least 45 = .ok (.ireturn, 1) := by decide +kernel
theorem dX2_least_46 : decode cX2_least 46 = .ok (.iload_n 1, 1) := by decide +kernel
theorem dX2_least_47 : decode cX2_least 47 = .ok (.iconst 2, 1) := by decide +kernel
theorem dX2_least_48 : decode cX2_least 48 = .ok (.if_icmp .ge 7, 3) := by decide +kernel
theorem dX2_least_51 : decode cX2_least 51 = .ok (.iconst 1, 1) := by decide +kernel
theorem dX2_least_52 : decode cX2_least 52 = .ok (.goto 4, 3) := by decide +kernel
theorem dX2_least_55 : decode cX2_least 55 = .ok (.iconst 0, 1) := by decide +kernel
theorem dX2_least_56 : decode cX2_least 56 = .ok (.ireturn, 1) := by decide +kernel
theorem dX2_least_57 : decode cX2_least 57 = .ok (.iconst 0, 1) := by decide +kernel
theorem dX2_least_58 : decode cX2_least 58 = .ok (.ireturn, 1) := by decide +kernel
theorem dX2_most_0 : decode cX2_most 0 = .ok (.iload_n 0, 1) := by decide +kernel
theorem dX2_most_1 : decode cX2_most 1 = .ok (.tableswitch 95 1 4 #[31, 43, 59, 82], 31) := by decide +kernel
theorem dX2_most_32 : decode cX2_most 32 = .ok (.iload_n 1, 1) := by decide +kernel
theorem dX2_most_33 : decode cX2_most 33 = .ok (.ifCond .ne 8, 3) := by decide +kernel
theorem dX2_most_36 : decode cX2_most 36 = .ok (.bipush 30, 2) := by decide +kernel
theorem dX2_most_38 : decode cX2_most 38 = .ok (.goto 5, 3) := by decide +kernel
theorem dX2_most_41 : decode cX2_most 41 = .ok (.bipush 99, 2) := by decide +kernel
theorem dX2_most_43 : decode cX2_most 43 = .ok (.ireturn, 1) := by decide +kernel
theorem dX2_most_44 : decode cX2_most 44 = .ok (.iload_n 1, 1) := by decide +kernel
theorem dX2_most_45 : decode cX2_most 45 = .ok (.ifCond .ne 12, 3) := by decide +kernel
theorem dX2_most_48 : decode cX2_most 48 = .ok (.aload_n 2, 1) := by decide +kernel
theorem dX2_most_49 : decode cX2_most 49 = .ok (.getfield 134, 3) := by decide +kernel
theorem dX2_most_52 : decode cX2_most 52 = .ok (.iconst 1, 1) := by decide +kernel
theorem dX2_most_53 : decode cX2_most 53 = .ok (.isub, 1) := by decide +kernel
theorem dX2_most_54 : decode cX2_most 54 = .ok (.goto 5, 3) := by decide +kernel
theorem dX2_most_57 : decode cX2_most 57 = .ok (.bipush 99, 2) := by decide +kernel
theorem dX2_most_59 : decode cX2_most 59 = .ok (.ireturn, 1) := by decide +kernel
theorem dX2_most_60 : decode cX2_most 60 = .ok (.iload_n 1, 1) := by decide +kernel
theorem dX2_most_61 : decode cX2_most 61 = .ok (.ifCond .ne 8, 3) := by decide +kernel
theorem dX2_most_64 : decode cX2_most 64 = .ok (.bipush 99, 2) := by decide +kernel
theorem dX2_most_66 : decode cX2_most 66 = .ok (.goto 16, 3) := by decide +kernel
theorem dX2_most_69 : decode cX2_most 69 = .ok (.iload_n 1, 1) := by decide +kernel
theorem dX2_most_70 : decode cX2_most 70 = .ok (.iconst 1, 1) := by decide +kernel
theorem dX2_most_71 : decode cX2_most 71 = .ok (.if_icmp .ne 9, 3) := by decide +kernel
theorem dX2_most_74 : decode cX2_most 74 = .ok (.sipush 999, 3) := by decide +kernel
theorem dX2_most_77 : decode cX2_most 77 = .ok (.goto 5, 3) := by decide +kernel
theorem dX2_most_80 : decode cX2_most 80 = .ok (.bipush 20, 2) := by decide +kernel
theorem dX2_most_82 : decode cX2_most 82 = .ok (.ireturn, 1) := by decide +kernel
theorem dX2_most_83 : decode cX2_most 83 = .ok (.iload_n 1, 1) := by decide +kernel
theorem dX2_most_84 : decode cX2_most 84 = .ok (.ifCond .ne 9, 3) := by decide +kernel
theorem dX2_most_87 : decode cX2_most 87 = .ok (.sipush 999, 3) := by decide +kernel
theorem dX2_most_90 : decode cX2_most 90 = .ok (.goto 5, 3) := by decide +kernel
theorem dX2_most_93 : decode cX2_most 93 = .ok (.bipush 99, 2) := by decide +kernel
theorem dX2_most_95 : decode cX2_most 95 = .ok (.ireturn, 1) := by decide +kernel
theorem dX2_most_96 : decode cX2_most 96 = .ok (.iload_n 1, 1) := by decide +kernel
theorem dX2_most_97 : decode cX2_most 97 = .ok (.ifCond .ne 8, 3) := by decide +kernel
theorem dX2_most_100 : decode cX2_most 100 = .ok (.bipush 20, 2) := by decide +kernel
theorem dX2_most_102 : decode cX2_most 102 = .ok (.goto 5, 3) := by decide +kernel
theorem dX2_most_105 : decode cX2_most 105 = .ok (.bipush 9, 2) := by decide +kernel
theorem dX2_most_107 : decode cX2_most 107 = .ok (.ireturn, 1) := by decide +kernel
theorem dX2_isFootTold_0 : decode cX2_isFootTold 0 = .ok (.iload_n 1, 1) := by decide +kernel
theorem dX2_isFootTold_1 : decode cX2_isFootTold 1 = .ok (.ifCond .lt 25, 3) := by decide +kernel
theorem dX2_isFootTold_4 : decode cX2_isFootTold 4 = .ok (.iload_n 1, 1) := by decide +kernel
theorem dX2_isFootTold_5 : decode cX2_isFootTold 5 = .ok (.aload_n 0, 1) := by decide +kernel
theorem dX2_isFootTold_6 : decode cX2_isFootTold 6 = .ok (.getfield 15, 3) := by decide +kernel
theorem dX2_isFootTold_9 : decode cX2_isFootTold 9 = .ok (.arraylength, 1) := by decide +kernel
theorem dX2_isFootTold_10 : decode cX2_isFootTold 10 = .ok (.if_icmp .ge 16, 3) := by decide +kernel
theorem dX2_isFootTold_13 : decode cX2_isFootTold 13 = .ok (.aload_n 0, 1) := by decide +kernel
theorem dX2_isFootTold_14 : decode cX2_isFootTold 14 = .ok (.getfield 15, 3) := by decide +kernel
theorem dX2_isFootTold_17 : decode cX2_isFootTold 17 = .ok (.iload_n 1, 1) := by decide +kernel
theorem dX2_isFootTold_18 : decode cX2_isFootTold 18 = .ok (.baload, 1) := by decide +kernel
theorem dX2_isFootTold_19 : decode cX2_isFootTold 19 = .ok (.ifCond .eq 7, 3) := by decide +kernel
theorem dX2_isFootTold_22 : decode cX2_isFootTold 22 = .ok (.iconst 1, 1) := by decide +kernel
theorem dX2_isFootTold_23 : decode cX2_isFootTold 23 = .ok (.goto 4, 3) := by decide +kernel
theorem dX2_isFootTold_26 : decode cX2_isFootTold 26 = .ok (.iconst 0, 1) := by decide +kernel
theorem dX2_isFootTold_27 : decode cX2_isFootTold 27 = .ok (.ireturn, 1) := by decide +kernel
theorem dX2_readEnd_0 : decode cX2_readEnd 0 = .ok (.aload_n 0, 1) := by decide +kernel
theorem dX2_readEnd_1 : decode cX2_readEnd 1 = .ok (.getfield 41, 3) := by decide +kernel
theorem dX2_readEnd_4 : decode cX2_readEnd 4 = .ok (.ifCond .eq 4, 3) := by decide +kernel
theorem dX2_readEnd_7 : decode cX2_readEnd 7 = .ok (.return_, 1) := by decide +kernel
theorem dX2_readEnd_8 : decode cX2_readEnd 8 = .ok (.aload_n 0, 1) := by decide +kernel
theorem dX2_readEnd_9 : decode cX2_readEnd 9 = .ok (.invokevirtual 38, 3) := by decide +kernel
theorem dX2_readEnd_12 : decode cX2_readEnd 12 = .ok (.aload_n 0, 1) := by decide +kernel
theorem dX2_readEnd_13 : decode cX2_readEnd 13 = .ok (.aload_n 0, 1) := by decide +kernel
theorem dX2_readEnd_14 : decode cX2_readEnd 14 = .ok (.getfield 44, 3) := by decide +kernel
theorem dX2_readEnd_17 : decode cX2_readEnd 17 = .ok (.invokevirtual 109, 3) := by decide +kernel
theorem dX2_readEnd_20 : decode cX2_readEnd 20 = .ok (.bipush 59, 2) := by decide +kernel
theorem dX2_readEnd_22 : decode cX2_readEnd 22 = .ok (.if_icmp .eq 13, 3) := by decide +kernel
theorem dX2_readEnd_25 : decode cX2_readEnd 25 = .ok (.aload_n 0, 1) := by decide +kernel
theorem dX2_readEnd_26 : decode cX2_readEnd 26 = .ok (.iconst 1, 1) := by decide +kernel
theorem dX2_readEnd_27 : decode cX2_readEnd 27 = .ok (.aload_n 0, 1) := by decide +kernel
theorem dX2_readEnd_28 : decode cX2_readEnd 28 = .ok (.getfield 44, 3) := by decide +kernel
theorem dX2_readEnd_31 : decode cX2_readEnd 31 = .ok (.invokevirtual 71, 3) := by decide +kernel
theorem dX2_readEnd_34 : decode cX2_readEnd 34 = .ok (.return_, 1) := by decide +kernel
theorem dX2_readEnd_35 : decode cX2_readEnd 35 = .ok (.aload_n 0, 1) := by decide +kernel
theorem dX2_readEnd_36 : decode cX2_readEnd 36 = .ok (.dup, 1) := by decide +kernel
theorem dX2_readEnd_37 : decode cX2_readEnd 37 = .ok (.getfield 44, 3) := by decide +kernel
theorem dX2_readEnd_40 : decode cX2_readEnd 40 = .ok (.iconst 1, 1) := by decide +kernel
theorem dX2_readEnd_41 : decode cX2_readEnd 41 = .ok (.iadd, 1) := by decide +kernel
theorem dX2_readEnd_42 : decode cX2_readEnd 42 = .ok (.putfield 44, 3) := by decide +kernel
theorem dX2_readEnd_45 : decode cX2_readEnd 45 = .ok (.return_, 1) := by decide +kernel
theorem dX2_take_0 : decode cX2_take 0 = .ok (.aload_n 0, 1) := by decide +kernel
theorem dX2_take_1 : decode cX2_take 1 = .ok (.iconst 0, 1) := by decide +kernel
theorem dX2_take_2 : decode cX2_take 2 = .ok (.invokevirtual 137, 3) := by decide +kernel
theorem dX2_take_5 : decode cX2_take 5 = .ok (.istore_n 3, 1) := by decide +kernel
theorem dX2_take_6 : decode cX2_take 6 = .ok (.aload_n 0, 1) := by decide +kernel
theorem dX2_take_7 : decode cX2_take 7 = .ok (.iconst 1, 1) := by decide +kernel
theorem dX2_take_8 : decode cX2_take 8 = .ok (.invokevirtual 137, 3) := by decide +kernel
theorem dX2_take_11 : decode cX2_take 11 = .ok (.istore 4, 2) := by decide +kernel
theorem dX2_take_13 : decode cX2_take 13 = .ok (.iload_n 1, 1) := by decide +kernel
theorem dX2_take_14 : decode cX2_take 14 = .ok (.tableswitch 119 1 4 #[30, 45, 85, 100], 30) := by decide +kernel
theorem dX2_take_44 : decode cX2_take 44 = .ok (.aload_n 0, 1) := by decide +kernel
theorem dX2_take_45 : decode cX2_take 45 = .ok (.iconst 1, 1) := by decide +kernel
theorem dX2_take_46 : decode cX2_take 46 = .ok (.putfield 54, 3) := by decide +kernel
theorem dX2_take_49 : decode cX2_take 49 = .ok (.aload_n 2, 1) := by decide +kernel
theorem dX2_take_50 : decode cX2_take 50 = .ok (.iload_n 3, 1) := by decide +kernel
theorem dX2_take_51 : decode cX2_take 51 = .ok (.iload 4, 2) := by decide +kernel
theorem dX2_take_53 : decode cX2_take 53 = .ok (.invokevirtual 140, 3) := by decide +kernel
theorem dX2_take_56 : decode cX2_take 56 = .ok (.goto 93, 3) := by decide +kernel
theorem dX2_take_59 : decode cX2_take 59 = .ok (.aload_n 0, 1) := by decide +kernel
theorem dX2_take_60 : decode cX2_take 60 = .ok (.dup, 1) := by decide +kernel
theorem dX2_take_61 : decode cX2_take 61 = .ok (.getfield 51, 3) := by decide +kernel
theorem dX2_take_64 : decode cX2_take 64 = .ok (.iconst 1, 1) := by decide +kernel
theorem dX2_take_65 : decode cX2_take 65 = .ok (.iadd, 1) := by decide +kernel
theorem dX2_take_66 : decode cX2_take 66 = .ok (.putfield 51, 3) := by decide +kernel
theorem dX2_take_69 : decode cX2_take 69 = .ok (.iload_n 3, 1) := by decide +kernel
theorem dX2_take_70 : decode cX2_take 70 = .ok (.ifCond .lt 19, 3) := by decide +kernel
theorem dX2_take_73 : decode cX2_take 73 = .ok (.iload_n 3, 1) := by decide +kernel
theorem dX2_take_74 : decode cX2_take 74 = .ok (.aload_n 0, 1) := by decide +kernel
theorem dX2_take_75 : decode cX2_take 75 = .ok (.getfield 15, 3) := by decide +kernel
theorem dX2_take_78 : decode cX2_take 78 = .ok (.arraylength, 1) := by decide +kernel
theorem dX2_take_79 : decode cX2_take 79 = .ok (.if_icmp .ge 10, 3) := by decide +kernel
theorem dX2_take_82 : decode cX2_take 82 = .ok (.aload_n 0, 1) := by decide +kernel
theorem dX2_take_83 : decode cX2_take 83 = .ok (.getfield 15, 3) := by decide +kernel
theorem dX2_take_86 : decode cX2_take 86 = .ok (.iload_n 3, 1) := by decide +kernel
theorem dX2_take_87 : decode cX2_take 87 = .ok (.iconst 1, 1) := by decide +kernel
theorem dX2_take_88 : decode cX2_take 88 = .ok (.bastore, 1) := by decide +kernel
theorem dX2_take_89 : decode cX2_take 89 = .ok (.aload_n 2, 1) := by decide +kernel
theorem dX2_take_90 : decode cX2_take 90 = .ok (.iload_n 3, 1) := by decide +kernel
theorem dX2_take_91 : decode cX2_take 91 = .ok (.iload 4, 2) := by decide +kernel
theorem dX2_take_93 : decode cX2_take 93 = .ok (.invokevirtual 143, 3) := by decide +kernel
theorem dX2_take_96 : decode cX2_take 96 = .ok (.goto 53, 3) := by decide +kernel
theorem dX2_take_99 : decode cX2_take 99 = .ok (.aload_n 2, 1) := by decide +kernel
theorem dX2_take_100 : decode cX2_take 100 = .ok (.iload_n 3, 1) := by decide +kernel
theorem dX2_take_101 : decode cX2_take 101 = .ok (.iload 4, 2) := by decide +kernel
theorem dX2_take_103 : decode cX2_take 103 = .ok (.aload_n 0, 1) := by decide +kernel
theorem dX2_take_104 : decode cX2_take 104 = .ok (.iconst 2, 1) := by decide +kernel
theorem dX2_take_105 : decode cX2_take 105 = .ok (.invokevirtual 137, 3) := by decide +kernel
theorem dX2_take_108 : decode cX2_take 108 = .ok (.invokevirtual 146, 3) := by decide +kernel
theorem dX2_take_111 : decode cX2_take 111 = .ok (.goto 38, 3) := by decide +kernel
theorem dX2_take_114 : decode cX2_take 114 = .ok (.aload_n 0, 1) := by decide +kernel
theorem dX2_take_115 : decode cX2_take 115 = .ok (.iconst 1, 1) := by decide +kernel
theorem dX2_take_116 : decode cX2_take 116 = .ok (.putfield 58, 3) := by decide +kernel
theorem dX2_take_119 : decode cX2_take 119 = .ok (.aload_n 2, 1) := by decide +kernel
theorem dX2_take_120 : decode cX2_take 120 = .ok (.iload_n 3, 1) := by decide +kernel
theorem dX2_take_121 : decode cX2_take 121 = .ok (.putfield 150, 3) := by decide +kernel
theorem dX2_take_124 : decode cX2_take 124 = .ok (.aload_n 2, 1) := by decide +kernel
theorem dX2_take_125 : decode cX2_take 125 = .ok (.iload 4, 2) := by decide +kernel
theorem dX2_take_127 : decode cX2_take 127 = .ok (.putfield 153, 3) := by decide +kernel
theorem dX2_take_130 : decode cX2_take 130 = .ok (.goto 19, 3) := by decide +kernel
theorem dX2_take_133 : decode cX2_take 133 = .ok (.aload_n 0, 1) := by decide +kernel
theorem dX2_take_134 : decode cX2_take 134 = .ok (.iconst 1, 1) := by decide +kernel
theorem dX2_take_135 : decode cX2_take 135 = .ok (.putfield 61, 3) := by decide +kernel
theorem dX2_take_138 : decode cX2_take 138 = .ok (.aload_n 2, 1) := by decide +kernel
theorem dX2_take_139 : decode cX2_take 139 = .ok (.iload_n 3, 1) := by decide +kernel
theorem dX2_take_140 : decode cX2_take 140 = .ok (.putfield 156, 3) := by decide +kernel
theorem dX2_take_143 : decode cX2_take 143 = .ok (.aload_n 2, 1) := by decide +kernel
theorem dX2_take_144 : decode cX2_take 144 = .ok (.iload 4, 2) := by decide +kernel
theorem dX2_take_146 : decode cX2_take 146 = .ok (.putfield 159, 3) := by decide +kernel
theorem dX2_take_149 : decode cX2_take 149 = .ok (.return_, 1) := by decide +kernel
theorem dX2_skipBlanks_0 : decode cX2_skipBlanks 0 = .ok (.aload_n 0, 1) := by decide +kernel
theorem dX2_skipBlanks_1 : decode cX2_skipBlanks 1 = .ok (.getfield 44, 3) := by decide +kernel
theorem dX2_skipBlanks_4 : decode cX2_skipBlanks 4 = .ok (.aload_n 0, 1) := by decide +kernel
theorem dX2_skipBlanks_5 : decode cX2_skipBlanks 5 = .ok (.getfield 27, 3) := by decide +kernel
theorem dX2_skipBlanks_8 : decode cX2_skipBlanks 8 = .ok (.if_icmp .ge 29, 3) := by decide +kernel
theorem dX2_skipBlanks_11 : decode cX2_skipBlanks 11 = .ok (.aload_n 0, 1) := by decide +kernel
theorem dX2_skipBlanks_12 : decode cX2_skipBlanks 12 = .ok (.aload_n 0, 1) := by decide +kernel
theorem dX2_skipBlanks_13 : decode cX2_skipBlanks 13 = .ok (.getfield 44, 3) := by decide +kernel
theorem dX2_skipBlanks_16 : decode cX2_skipBlanks 16 = .ok (.invokevirtual 109, 3) := by decide +kernel
theorem dX2_skipBlanks_19 : decode cX2_skipBlanks 19 = .ok (.bipush 32, 2) := by decide +kernel
theorem dX2_skipBlanks_21 : decode cX2_skipBlanks 21 = .ok (.if_icmp .ne 16, 3) := by decide +kernel
theorem dX2_skipBlanks_24 : decode cX2_skipBlanks 24 = .ok (.aload_n 0, 1) := by decide +kernel
theorem dX2_skipBlanks_25 : decode cX2_skipBlanks 25 = .ok (.dup, 1) := by decide +kernel
theorem dX2_skipBlanks_26 : decode cX2_skipBlanks 26 = .ok (.getfield 44, 3) := by decide +kernel
theorem dX2_skipBlanks_29 : decode cX2_skipBlanks 29 = .ok (.iconst 1, 1) := by decide +kernel
theorem dX2_skipBlanks_30 : decode cX2_skipBlanks 30 = .ok (.iadd, 1) := by decide +kernel
theorem dX2_skipBlanks_31 : decode cX2_skipBlanks 31 = .ok (.putfield 44, 3) := by decide +kernel
theorem dX2_skipBlanks_34 : decode cX2_skipBlanks 34 = .ok (.goto (-34), 3) := by decide +kernel
theorem dX2_skipBlanks_37 : decode cX2_skipBlanks 37 = .ok (.return_, 1) := by decide +kernel
theorem dX2_skipLetters_0 : decode cX2_skipLetters 0 = .ok (.aload_n 0, 1) := by decide +kernel
theorem dX2_skipLetters_1 : decode cX2_skipLetters 1 = .ok (.getfield 44, 3) := by decide +kernel
theorem dX2_skipLetters_4 : decode cX2_skipLetters 4 = .ok (.aload_n 0, 1) := by decide +kernel
theorem dX2_skipLetters_5 : decode cX2_skipLetters 5 = .ok (.getfield 27, 3) := by decide +kernel
theorem dX2_skipLetters_8 : decode cX2_skipLetters 8 = .ok (.if_icmp .ge 30, 3) := by decide +kernel
theorem dX2_skipLetters_11 : decode cX2_skipLetters 11 = .ok (.aload_n 0, 1) := by decide +kernel
theorem dX2_skipLetters_12 : decode cX2_skipLetters 12 = .ok (.aload_n 0, 1) := by decide +kernel
theorem dX2_skipLetters_13 : decode cX2_skipLetters 13 = .ok (.getfield 44, 3) := by decide +kernel
theorem dX2_skipLetters_16 : decode cX2_skipLetters 16 = .ok (.invokevirtual 109, 3) := by decide +kernel
theorem dX2_skipLetters_19 : decode cX2_skipLetters 19 = .ok (.invokestatic 162, 3) := by decide +kernel
theorem dX2_skipLetters_22 : decode cX2_skipLetters 22 = .ok (.ifCond .eq 16, 3) := by decide +kernel
theorem dX2_skipLetters_25 : decode cX2_skipLetters 25 = .ok (.aload_n 0, 1) := by decide +kernel
theorem dX2_skipLetters_26 : decode cX2_skipLetters 26 = .ok (.dup, 1) := by decide +kernel
theorem dX2_skipLetters_27 : decode cX2_skipLetters 27 = .ok (.getfield 44, 3) := by decide +kernel
theorem dX2_skipLetters_30 : decode cX2_skipLetters 30 = .ok (.iconst 1, 1) := by decide +kernel
theorem dX2_skipLetters_31 : decode cX2_skipLetters 31 = .ok (.iadd, 1) := by decide +kernel
theorem dX2_skipLetters_32 : decode cX2_skipLetters 32 = .ok (.putfield 44, 3) := by decide +kernel
theorem dX2_skipLetters_35 : decode cX2_skipLetters 35 = .ok (.goto (-35), 3) := by decide +kernel
theorem dX2_skipLetters_38 : decode cX2_skipLetters 38 = .ok (.return_, 1) := by decide +kernel
theorem dX2_byteAt_0 : decode cX2_byteAt 0 = .ok (.iload_n 1, 1) := by decide +kernel
theorem dX2_byteAt_1 : decode cX2_byteAt 1 = .ok (.ifCond .lt 33, 3) := by decide +kernel
theorem dX2_byteAt_4 : decode cX2_byteAt 4 = .ok (.iload_n 1, 1) := by decide +kernel
theorem dX2_byteAt_5 : decode cX2_byteAt 5 = .ok (.aload_n 0, 1) := by decide +kernel
theorem dX2_byteAt_6 : decode cX2_byteAt 6 = .ok (.getfield 27, 3) := by decide +kernel
theorem dX2_byteAt_9 : decode cX2_byteAt 9 = .ok (.if_icmp .ge 25, 3) := by decide +kernel
theorem dX2_byteAt_12 : decode cX2_byteAt 12 = .ok (.iload_n 1, 1) := by decide +kernel
theorem dX2_byteAt_13 : decode cX2_byteAt 13 = .ok (.aload_n 0, 1) := by decide +kernel
theorem dX2_byteAt_14 : decode cX2_byteAt 14 = .ok (.getfield 9, 3) := by decide +kernel
theorem dX2_byteAt_17 : decode cX2_byteAt 17 = .ok (.arraylength, 1) := by decide +kernel
theorem dX2_byteAt_18 : decode cX2_byteAt 18 = .ok (.if_icmp .ge 16, 3) := by decide +kernel
theorem dX2_byteAt_21 : decode cX2_byteAt 21 = .ok (.aload_n 0, 1) := by decide +kernel
theorem dX2_byteAt_22 : decode cX2_byteAt 22 = .ok (.getfield 9, 3) := by decide +kernel
theorem dX2_byteAt_25 : decode cX2_byteAt 25 = .ok (.iload_n 1, 1) := by decide +kernel
theorem dX2_byteAt_26 : decode cX2_byteAt 26 = .ok (.baload, 1) := by decide +kernel
theorem dX2_byteAt_27 : decode cX2_byteAt 27 = .ok (.sipush 255, 3) := by decide +kernel
theorem dX2_byteAt_30 : decode cX2_byteAt 30 = .ok (.iand, 1) := by decide +kernel
theorem dX2_byteAt_31 : decode cX2_byteAt 31 = .ok (.goto 4, 3) := by decide +kernel
theorem dX2_byteAt_34 : decode cX2_byteAt 34 = .ok (.iconst (-1), 1) := by decide +kernel
theorem dX2_byteAt_35 : decode cX2_byteAt 35 = .ok (.ireturn, 1) := by decide +kernel
theorem dX2_isLetter_0 : decode cX2_isLetter 0 = .ok (.iload_n 0, 1) := by decide +kernel
theorem dX2_isLetter_1 : decode cX2_isLetter 1 = .ok (.bipush 97, 2) := by decide +kernel
theorem dX2_isLetter_3 : decode cX2_isLetter 3 = .ok (.if_icmp .lt 13, 3) := by decide +kernel
theorem dX2_isLetter_6 : decode cX2_isLetter 6 = .ok (.iload_n 0, 1) := by decide +kernel
theorem dX2_isLetter_7 : decode cX2_isLetter 7 = .ok (.bipush 122, 2) := by decide +kernel
theorem dX2_isLetter_9 : decode cX2_isLetter 9 = .ok (.if_icmp .gt 7, 3) := by decide +kernel
theorem dX2_isLetter_12 : decode cX2_isLetter 12 = .ok (.iconst 1, 1) := by decide +kernel
theorem dX2_isLetter_13 : decode cX2_isLetter 13 = .ok (.goto 4, 3) := by decide +kernel
theorem dX2_isLetter_16 : decode cX2_isLetter 16 = .ok (.iconst 0, 1) := by decide +kernel
theorem dX2_isLetter_17 : decode cX2_isLetter 17 = .ok (.ireturn, 1) := by decide +kernel
theorem dX2_isFigure_0 : decode cX2_isFigure 0 = .ok (.iload_n 0, 1) := by decide +kernel
theorem dX2_isFigure_1 : decode cX2_isFigure 1 = .ok (.bipush 48, 2) := by decide +kernel
theorem dX2_isFigure_3 : decode cX2_isFigure 3 = .ok (.if_icmp .lt 13, 3) := by decide +kernel
theorem dX2_isFigure_6 : decode cX2_isFigure 6 = .ok (.iload_n 0, 1) := by decide +kernel
theorem dX2_isFigure_7 : decode cX2_isFigure 7 = .ok (.bipush 57, 2) := by decide +kernel
theorem dX2_isFigure_9 : decode cX2_isFigure 9 = .ok (.if_icmp .gt 7, 3) := by decide +kernel
theorem dX2_isFigure_12 : decode cX2_isFigure 12 = .ok (.iconst 1, 1) := by decide +kernel
theorem dX2_isFigure_13 : decode cX2_isFigure 13 = .ok (.goto 4, 3) := by decide +kernel
theorem dX2_isFigure_16 : decode cX2_isFigure 16 = .ok (.iconst 0, 1) := by decide +kernel
theorem dX2_isFigure_17 : decode cX2_isFigure 17 = .ok (.ireturn, 1) := by decide +kernel
theorem dX3_init_0 : decode cX3_init 0 = .ok (.aload_n 0, 1) := by decide +kernel
theorem dX3_init_1 : decode cX3_init 1 = .ok (.invokespecial 3, 3) := by decide +kernel
theorem dX3_init_4 : decode cX3_init 4 = .ok (.aload_n 0, 1) := by decide +kernel
theorem dX3_init_5 : decode cX3_init 5 = .ok (.bipush 6, 2) := by decide +kernel
theorem dX3_init_7 : decode cX3_init 7 = .ok (.newarray .int, 2) := by decide +kernel
theorem dX3_init_9 : decode cX3_init 9 = .ok (.putfield 9, 3) := by decide +kernel
theorem dX3_init_12 : decode cX3_init 12 = .ok (.aload_n 0, 1) := by decide +kernel
theorem dX3_init_13 : decode cX3_init 13 = .ok (.new 15, 3) := by decide +kernel
theorem dX3_init_16 : decode cX3_init 16 = .ok (.dup, 1) := by decide +kernel
theorem dX3_init_17 : decode cX3_init 17 = .ok (.invokespecial 17, 3) := by decide +kernel
theorem dX3_init_20 : decode cX3_init 20 = .ok (.putfield 18, 3) := by decide +kernel
theorem dX3_init_23 : decode cX3_init 23 = .ok (.return_, 1) := by decide +kernel
theorem dX3_forget_0 : decode cX3_forget 0 = .ok (.aload_n 0, 1) := by decide +kernel
theorem dX3_forget_1 : decode cX3_forget 1 = .ok (.iconst 0, 1) := by decide +kernel
theorem dX3_forget_2 : decode cX3_forget 2 = .ok (.putfield 22, 3) := by decide +kernel
theorem dX3_forget_5 : decode cX3_forget 5 = .ok (.return_, 1) := by decide +kernel
theorem dX3_answer_0 : decode cX3_answer 0 = .ok (.aload_n 0, 1) := by decide +kernel
theorem dX3_answer_1 : decode cX3_answer 1 = .ok (.getfield 22, 3) := by decide +kernel
theorem dX3_answer_4 : decode cX3_answer 4 = .ok (.ifCond .ne 14, 3) := by decide +kernel
theorem dX3_answer_7 : decode cX3_answer 7 = .ok (.aload_n 0, 1) := by decide +kernel
theorem dX3_answer_8 : decode cX3_answer 8 = .ok (.aload_n 1, 1) := by decide +kernel
theorem dX3_answer_9 : decode cX3_answer 9 = .ok (.aload_n 2, 1) := by decide +kernel
theorem dX3_answer_10 : decode cX3_answer 10 = .ok (.invokevirtual 26, 3) := by decide +kernel
theorem dX3_answer_13 : decode cX3_answer 13 = .ok (.aload_n 0, 1) := by decide +kernel
theorem dX3_answer_14 : decode cX3_answer 14 = .ok (.iconst 1, 1) := by decide +kernel
theorem dX3_answer_15 : decode cX3_answer 15 = .ok (.putfield 22, 3) := by decide +kernel
theorem dX3_answer_18 : decode cX3_answer 18 = .ok (.iload_n 3, 1) := by decide +kernel
theorem dX3_answer_19 : decode cX3_answer 19 = .ok (.iconst (-1), 1) := by decide +kernel
theorem dX3_answer_20 : decode cX3_answer 20 = .ok (.if_icmp .eq 11, 3) := by decide +kernel
theorem dX3_answer_23 : decode cX3_answer 23 = .ok (.aload_n 0, 1) := by decide +kernel
theorem dX3_answer_24 : decode cX3_answer 24 = .ok (.getfield 30, 3) := by decide +kernel
theorem dX3_answer_27 : decode cX3_answer 27 = .ok (.iconst (-1), 1) := by decide +kernel
theorem dX3_answer_28 : decode cX3_answer 28 = .ok (.if_icmp .ne 8, 3) := by decide +kernel
theorem dX3_answer_31 : decode cX3_answer 31 = .ok (.aload_n 0, 1) := by decide +kernel
theorem dX3_answer_32 : decode cX3_answer 32 = .ok (.getfield 30, 3) := by decide +kernel
theorem dX3_answer_35 : decode cX3_answer 35 = .ok (.ireturn, 1) := by decide +kernel
theorem dX3_answer_36 : decode cX3_answer 36 = .ok (.aload_n 0, 1) := by decide +kernel
theorem dX3_answer_37 : decode cX3_answer 37 = .ok (.iload_n 3, 1) := by decide +kernel
theorem dX3_answer_38 : decode cX3_answer 38 = .ok (.invokevirtual 34, 3) := by decide +kernel
theorem dX3_answer_41 : decode cX3_answer 41 = .ok (.ireturn, 1) := by decide +kernel
theorem dX3_turnOf_0 : decode cX3_turnOf 0 = .ok (.iload_n 1, 1) := by decide +kernel
theorem dX3_turnOf_1 : decode cX3_turnOf 1 = .ok (.ifCond .lt 21, 3) := by decide +kernel
theorem dX3_turnOf_4 : decode cX3_turnOf 4 = .ok (.iload_n 1, 1) := by decide +kernel
theorem dX3_turnOf_5 : decode cX3_turnOf 5 = .ok (.aload_n 0, 1) := by decide +kernel
theorem dX3_turnOf_6 : decode cX3_turnOf 6 = .ok (.getfield 9, 3) := by decide +kernel
theorem dX3_turnOf_9 : decode cX3_turnOf 9 = .ok (.arraylength, 1) := by decide +kernel
theorem dX3_turnOf_10 : decode cX3_turnOf 10 = .ok (.if_icmp .ge 12, 3) := by decide +kernel
theorem dX3_turnOf_13 : decode cX3_turnOf 13 = .ok (.aload_n 0, 1) := by decide +kernel
theorem dX3_turnOf_14 : decode cX3_turnOf 14 = .ok (.getfield 9, 3) := by decide +kernel
theorem dX3_turnOf_17 : decode cX3_turnOf 17 = .ok (.iload_n 1, 1) := by decide +kernel
theorem dX3_turnOf_18 : decode cX3_turnOf 18 = .ok (.iaload, 1) := by decide +kernel
theorem dX3_turnOf_19 : decode cX3_turnOf 19 = .ok (.goto 4, 3) := by decide +kernel
theorem dX3_turnOf_22 : decode cX3_turnOf 22 = .ok (.iconst (-1), 1) := by decide +kernel
theorem dX3_turnOf_23 : decode cX3_turnOf 23 = .ok (.ireturn, 1) := by decide +kernel
theorem dX3_find_0 : decode cX3_find 0 = .ok (.iconst 0, 1) := by decide +kernel
theorem dX3_find_1 : decode cX3_find 1 = .ok (.istore_n 3, 1) := by decide +kernel
theorem dX3_find_2 : decode cX3_find 2 = .ok (.iload_n 3, 1) := by decide +kernel
theorem dX3_find_3 : decode cX3_find 3 = .ok (.aload_n 0, 1) := by decide +kernel
theorem dX3_find_4 : decode cX3_find 4 = .ok (.getfield 9, 3) := by decide +kernel
theorem dX3_find_7 : decode cX3_find 7 = .ok (.arraylength, 1) := by decide +kernel
theorem dX3_find_8 : decode cX3_find 8 = .ok (.if_icmp .ge 16, 3) := by decide +kernel
theorem dX3_find_11 : decode cX3_find 11 = .ok (.aload_n 0, 1) := by decide +kernel
theorem dX3_find_12 : decode cX3_find 12 = .ok (.getfield 9, 3) := by decide +kernel
theorem dX3_find_15 : decode cX3_find 15 = .ok (.iload_n 3, 1) := by decide +kernel
theorem dX3_find_16 : decode cX3_find 16 = .ok (.iconst (-1), 1) := by decide +kernel
theorem dX3_find_17 : decode cX3_find 17 = .ok (.iastore, 1) := by decide +kernel
theorem dX3_find_18 : decode cX3_find 18 = .ok (.iinc 3 1, 3) := by decide +kernel
theorem dX3_find_21 : decode cX3_find 21 = .ok (.goto (-19), 3) := by decide +kernel
theorem dX3_find_24 : decode cX3_find 24 = .ok (.aload_n 0, 1) := by decide +kernel
theorem dX3_find_25 : decode cX3_find 25 = .ok (.iconst 0, 1) := by decide +kernel
theorem dX3_find_26 : decode cX3_find 26 = .ok (.putfield 30, 3) := by decide +kernel
theorem dX3_find_29 : decode cX3_find 29 = .ok (.aload_n 2, 1) := by decide +kernel
theorem dX3_find_30 : decode cX3_find 30 = .ok (.getfield 38, 3) := by decide +kernel
theorem dX3_find_33 : decode cX3_find 33 = .ok (.iconst (-1), 1) := by decide +kernel
theorem dX3_find_34 : decode cX3_find 34 = .ok (.if_icmp .eq 4, 3) := by decide +kernel
theorem dX3_find_37 : decode cX3_find 37 = .ok (.return_, 1) := by decide +kernel
theorem dX3_find_38 : decode cX3_find 38 = .ok (.iconst 1, 1) := by decide +kernel
theorem dX3_find_39 : decode cX3_find 39 = .ok (.istore_n 3, 1) := by decide +kernel
theorem dX3_find_40 : decode cX3_find 40 = .ok (.iconst 1, 1) := by decide +kernel
theorem dX3_find_41 : decode cX3_find 41 = .ok (.istore 4, 2) := by decide +kernel
theorem dX3_find_43 : decode cX3_find 43 = .ok (.iload 4, 2) := by decide +kernel
theorem dX3_find_45 : decode cX3_find 45 = .ok (.bipush 20, 2) := by decide +kernel
theorem dX3_find_47 : decode cX3_find 47 = .ok (.if_icmp .gt 102, 3) := by decide +kernel
theorem dX3_find_50 : decode cX3_find 50 = .ok (.iload_n 3, 1) := by decide +kernel
theorem dX3_find_51 : decode cX3_find 51 = .ok (.ifCond .eq 98, 3) := by decide +kernel
theorem dX3_find_54 : decode cX3_find 54 = .ok (.iconst 0, 1) := by decide +kernel
theorem dX3_find_55 : decode cX3_find 55 = .ok (.istore_n 3, 1) := by decide +kernel
theorem dX3_find_56 : decode cX3_find 56 = .ok (.iconst 0, 1) := by decide +kernel
theorem dX3_find_57 : decode cX3_find 57 = .ok (.istore 5, 2) := by decide +kernel
theorem dX3_find_59 : decode cX3_find 59 = .ok (.iload 5, 2) := by decide +kernel
theorem dX3_find_61 : decode cX3_find 61 = .ok (.aload_n 1, 1) := by decide +kernel
theorem dX3_find_62 : decode cX3_find 62 = .ok (.getfield 41, 3) := by decide +kernel
theorem dX3_find_65 : decode cX3_find 65 = .ok (.if_icmp .ge 60, 3) := by decide +kernel
theorem dX3_find_68 : decode cX3_find 68 = .ok (.iload 5, 2) := by decide +kernel
theorem dX3_find_70 : decode cX3_find 70 = .ok (.aload_n 0, 1) := by decide +kernel
theorem dX3_find_71 : decode cX3_find 71 = .ok (.getfield 9, 3) := by decide +kernel
theorem dX3_find_74 : decode cX3_find 74 = .ok (.arraylength, 1) := by decide +kernel
theorem dX3_find_75 : decode cX3_find 75 = .ok (.if_icmp .ge 50, 3) := by decide +kernel
theorem dX3_find_78 : decode cX3_find 78 = .ok (.aload_n 0, 1) := by decide +kernel
theorem dX3_find_79 : decode cX3_find 79 = .ok (.aload_n 1, 1) := by decide +kernel
theorem dX3_find_80 : decode cX3_find 80 = .ok (.aload_n 2, 1) := by decide +kernel
theorem dX3_find_81 : decode cX3_find 81 = .ok (.iload 5, 2) := by decide +kernel
theorem dX3_find_83 : decode cX3_find 83 = .ok (.invokevirtual 46, 3) := by decide +kernel
theorem dX3_find_86 : decode cX3_find 86 = .ok (.istore 6, 2) := by decide +kernel
theorem dX3_find_88 : decode cX3_find 88 = .ok (.iload_n 3, 1) := by decide +kernel
theorem dX3_find_89 : decode cX3_find 89 = .ok (.ifCond .ne 15, 3) := by decide +kernel
theorem dX3_find_92 : decode cX3_find 92 = .ok (.iload 6, 2) := by decide +kernel
theorem dX3_find_94 : decode cX3_find 94 = .ok (.aload_n 0, 1) := by decide +kernel
theorem dX3_find_95 : decode cX3_find 95 = .ok (.getfield 9, 3) := by decide +kernel
theorem dX3_find_98 : decode cX3_find 98 = .ok (.iload 5, 2) := by decide +kernel
theorem dX3_find_100 : decode cX3_find 100 = .ok (.iaload, 1) := by decide +kernel
theorem dX3_find_101 : decode cX3_find 101 = .ok (.if_icmp .eq 7, 3) := by decide +kernel
theorem dX3_find_104 : decode cX3_find 104 = .ok (.iconst 1, 1) := by decide +kernel
theorem dX3_find_105 : decode cX3_find 105 = .ok (.goto 4, 3) := by decide +kernel
theorem dX3_find_108 : decode cX3_find 108 = .ok (.iconst 0, 1) := by decide +kernel
theorem dX3_find_109 : decode cX3_find 109 = .ok (.istore_n 3, 1) := by decide +kernel
theorem dX3_find_110 : decode cX3_find 110 = .ok (.aload_n 0, 1) := by decide +kernel
theorem dX3_find_111 : decode cX3_find 111 = .ok (.getfield 9, 3) := by decide +kernel
theorem dX3_find_114 : decode cX3_find 114 = .ok (.iload 5, 2) := by decide +kernel
theorem dX3_find_116 : decode cX3_find 116 = .ok (.iload 6, 2) := by decide +kernel
theorem dX3_find_118 : decode cX3_find 118 = .ok (.iastore, 1) := by decide +kernel
theorem dX3_find_119 : decode cX3_find 119 = .ok (.iinc 5 1, 3) := by decide +kernel
theorem dX3_find_122 : decode cX3_find 122 = .ok (.goto (-63), 3) := by decide +kernel
theorem dX3_find_125 : decode cX3_find 125 = .ok (.aload_n 0, 1) := by decide +kernel
theorem dX3_find_126 : decode cX3_find 126 = .ok (.dup, 1) := by decide +kernel
theorem dX3_find_127 : decode cX3_find 127 = .ok (.getfield 30, 3) := by decide +kernel
theorem dX3_find_130 : decode cX3_find 130 = .ok (.iload_n 3, 1) := by decide +kernel
theorem dX3_find_131 : decode cX3_find 131 = .ok (.ifCond .eq 7, 3) := by decide +kernel
theorem dX3_find_134 : decode cX3_find 134 = .ok (.iconst 1, 1) := by decide +kernel
theorem dX3_find_135 : decode cX3_find 135 = .ok (.goto 4, 3) := by decide +kernel
theorem dX3_find_138 : decode cX3_find 138 = .ok (.iconst 0, 1) := by decide +kernel
theorem dX3_find_139 : decode cX3_find 139 = .ok (.iadd, 1) := by decide +kernel
theorem dX3_find_140 : decode cX3_find 140 = .ok (.putfield 30, 3) := by decide +kernel
theorem dX3_find_143 : decode cX3_find 143 = .ok (.iinc 4 1, 3) := by decide +kernel
theorem dX3_find_146 : decode cX3_find 146 = .ok (.goto (-103), 3) := by decide +kernel
theorem dX3_find_149 : decode cX3_find 149 = .ok (.aload_n 0, 1) := by decide +kernel
theorem dX3_find_150 : decode cX3_find 150 = .ok (.getfield 30, 3) := by decide +kernel
theorem dX3_find_153 : decode cX3_find 153 = .ok (.bipush 20, 2) := by decide +kernel
theorem dX3_find_155 : decode cX3_find 155 = .ok (.if_icmp .ne 8, 3) := by decide +kernel
theorem dX3_find_158 : decode cX3_find 158 = .ok (.aload_n 0, 1) := by decide +kernel
theorem dX3_find_159 : decode cX3_find 159 = .ok (.iconst (-1), 1) := by decide +kernel
theorem dX3_find_160 : decode cX3_find 160 = .ok (.putfield 30, 3) := by decide +kernel
theorem dX3_find_163 : decode cX3_find 163 = .ok (.return_, 1) := by decide +kernel
theorem dX3_bestTurn_0 : decode cX3_bestTurn 0 = .ok (.iconst (-1), 1) := by decide +kernel
theorem dX3_bestTurn_1 : decode cX3_bestTurn 1 = .ok (.istore 4, 2) := by decide +kernel
theorem dX3_bestTurn_3 : decode cX3_bestTurn 3 = .ok (.iconst 0, 1) := by decide +kernel
theorem dX3_bestTurn_4 : decode cX3_bestTurn 4 = .ok (.istore 5, 2) := by decide +kernel
theorem dX3_bestTurn_6 : decode cX3_bestTurn 6 = .ok (.iconst 5, 1) := by decide +kernel
theorem dX3_bestTurn_7 : decode cX3_bestTurn 7 = .ok (.istore 6, 2) := by decide +kernel
theorem dX3_bestTurn_9 : decode cX3_bestTurn 9 = .ok (.iload 6, 2) := by decide +kernel
theorem dX3_bestTurn_11 : decode cX3_bestTurn 11 = .ok (.ifCond .lt 35, 3) := by decide +kernel
theorem dX3_bestTurn_14 : decode cX3_bestTurn 14 = .ok (.aload_n 0, 1) := by decide +kernel
theorem dX3_bestTurn_15 : decode cX3_bestTurn 15 = .ok (.aload_n 1, 1) := by decide +kernel
theorem dX3_bestTurn_16 : decode cX3_bestTurn 16 = .ok (.aload_n 2, 1) := by decide +kernel
theorem dX3_bestTurn_17 : decode cX3_bestTurn 17 = .ok (.iload_n 3, 1) := by decide +kernel
theorem dX3_bestTurn_18 : decode cX3_bestTurn 18 = .ok (.iload 6, 2) := by decide +kernel
theorem dX3_bestTurn_20 : decode cX3_bestTurn 20 = .ok (.invokevirtual 50, 3) := by decide +kernel
theorem dX3_bestTurn_23 : decode cX3_bestTurn 23 = .ok (.istore 7, 2) := by decide +kernel
theorem dX3_bestTurn_25 : decode cX3_bestTurn 25 = .ok (.iload 7, 2) := by decide +kernel
theorem dX3_bestTurn_27 : decode cX3_bestTurn 27 = .ok (.iload 5, 2) := by decide +kernel
theorem dX3_bestTurn_29 : decode cX3_bestTurn 29 = .ok (.if_icmp .le 11, 3) := by decide +kernel
theorem dX3_bestTurn_32 : decode cX3_bestTurn 32 = .ok (.iload 6, 2) := by decide +kernel
theorem dX3_bestTurn_34 : decode cX3_bestTurn 34 = .ok (.istore 4, 2) := by decide +kernel
theorem dX3_bestTurn_36 : decode cX3_bestTurn 36 = .ok (.iload 7, 2) := by decide +kernel
theorem dX3_bestTurn_38 : decode cX3_bestTurn 38 = .ok (.istore 5, 2) := by decide +kernel
theorem dX3_bestTurn_40 : decode cX3_bestTurn 40 = .ok (.iinc 6 (-1), 3) := by decide +kernel
theorem dX3_bestTurn_43 : decode cX3_bestTurn 43 = .ok (.goto (-34), 3) := by decide +kernel
theorem dX3_bestTurn_46 : decode cX3_bestTurn 46 = .ok (.iload 4, 2) := by decide +kernel
theorem dX3_bestTurn_48 : decode cX3_bestTurn 48 = .ok (.ireturn, 1) := by decide +kernel
theorem dX3_gainAt_0 : decode cX3_gainAt 0 = .ok (.aload_n 0, 1) := by decide +kernel
theorem dX3_gainAt_1 : decode cX3_gainAt 1 = .ok (.getfield 18, 3) := by decide +kernel
theorem dX3_gainAt_4 : decode cX3_gainAt 4 = .ok (.aload_n 2, 1) := by decide +kernel
theorem dX3_gainAt_5 : decode cX3_gainAt 5 = .ok (.invokevirtual 54, 3) := by decide +kernel
theorem dX3_gainAt_8 : decode cX3_gainAt 8 = .ok (.iconst 0, 1) := by decide +kernel
theorem dX3_gainAt_9 : decode cX3_gainAt 9 = .ok (.istore 5, 2) := by decide +kernel
theorem dX3_gainAt_11 : decode cX3_gainAt 11 = .ok (.iload 5, 2) := by decide +kernel
theorem dX3_gainAt_13 : decode cX3_gainAt 13 = .ok (.iload 4, 2) := by decide +kernel
theorem dX3_gainAt_15 : decode cX3_gainAt 15 = .ok (.if_icmp .gt 112, 3) := by decide +kernel
theorem dX3_gainAt_18 : decode cX3_gainAt 18 = .ok (.iconst 0, 1) := by decide +kernel
theorem dX3_gainAt_19 : decode cX3_gainAt 19 = .ok (.istore 6, 2) := by decide +kernel
theorem dX3_gainAt_21 : decode cX3_gainAt 21 = .ok (.iload 6, 2) := by decide +kernel
theorem dX3_gainAt_23 : decode cX3_gainAt 23 = .ok (.aload_n 1, 1) := by decide +kernel
theorem dX3_gainAt_24 : decode cX3_gainAt 24 = .ok (.getfield 41, 3) := by decide +kernel
theorem dX3_gainAt_27 : decode cX3_gainAt 27 = .ok (.if_icmp .ge 94, 3) := by decide +kernel
theorem dX3_gainAt_30 : decode cX3_gainAt 30 = .ok (.iload 6, 2) := by decide +kernel
theorem dX3_gainAt_32 : decode cX3_gainAt 32 = .ok (.iload_n 3, 1) := by decide +kernel
theorem dX3_gainAt_33 : decode cX3_gainAt 33 = .ok (.if_icmp .ne 8, 3) := by decide +kernel
theorem dX3_gainAt_36 : decode cX3_gainAt 36 = .ok (.iload 4, 2) := by decide +kernel
theorem dX3_gainAt_38 : decode cX3_gainAt 38 = .ok (.goto 9, 3) := by decide +kernel
theorem dX3_gainAt_41 : decode cX3_gainAt 41 = .ok (.aload_n 0, 1) := by decide +kernel
theorem dX3_gainAt_42 : decode cX3_gainAt 42 = .ok (.iload 6, 2) := by decide +kernel
theorem dX3_gainAt_44 : decode cX3_gainAt 44 = .ok (.invokevirtual 34, 3) := by decide +kernel
theorem dX3_gainAt_47 : decode cX3_gainAt 47 = .ok (.istore 7, 2) := by decide +kernel
theorem dX3_gainAt_49 : decode cX3_gainAt 49 = .ok (.iload 7, 2) := by decide +kernel
theorem dX3_gainAt_51 : decode cX3_gainAt 51 = .ok (.iload 5, 2) := by decide +kernel
theorem dX3_gainAt_53 : decode cX3_gainAt 53 = .ok (.if_icmp .eq 6, 3) := by decide +kernel
theorem dX3_gainAt_56 : decode cX3_gainAt 56 = .ok (.goto 59, 3) := by decide +kernel
theorem dX3_gainAt_59 : decode cX3_gainAt 59 = .ok (.aload_n 0, 1) := by decide +kernel
theorem dX3_gainAt_60 : decode cX3_gainAt 60 = .ok (.getfield 18, 3) := by decide +kernel
theorem dX3_gainAt_63 : decode cX3_gainAt 63 = .ok (.aload_n 1, 1) := by decide +kernel
theorem dX3_gainAt_64 : decode cX3_gainAt 64 = .ok (.iload 6, 2) := by decide +kernel
theorem dX3_gainAt_66 : decode cX3_gainAt 66 = .ok (.iconst 0, 1) := by decide +kernel
theorem dX3_gainAt_67 : decode cX3_gainAt 67 = .ok (.invokevirtual 58, 3) := by decide +kernel
theorem dX3_gainAt_70 : decode cX3_gainAt 70 = .ok (.pop, 1) := by decide +kernel
theorem dX3_gainAt_71 : decode cX3_gainAt 71 = .ok (.iload 6, 2) := by decide +kernel
theorem dX3_gainAt_73 : decode cX3_gainAt 73 = .ok (.iload_n 3, 1) := by decide +kernel
theorem dX3_gainAt_74 : decode cX3_gainAt 74 = .ok (.if_icmp .ne 28, 3) := by decide +kernel
theorem dX3_gainAt_77 : decode cX3_gainAt 77 = .ok (.aload_n 0, 1) := by decide +kernel
theorem dX3_gainAt_78 : decode cX3_gainAt 78 = .ok (.getfield 18, 3) := by decide +kernel
theorem dX3_gainAt_81 : decode cX3_gainAt 81 = .ok (.getfield 38, 3) := by decide +kernel
theorem dX3_gainAt_84 : decode cX3_gainAt 84 = .ok (.iload_n 3, 1) := by decide +kernel
theorem dX3_gainAt_85 : decode cX3_gainAt 85 = .ok (.if_icmp .ne 10, 3) := by decide +kernel
theorem dX3_gainAt_88 : decode cX3_gainAt 88 = .ok (.aload_n 1, 1) := by decide +kernel
theorem dX3_gainAt_89 : decode cX3_gainAt 89 = .ok (.getfield 62, 3) := by decide +kernel
theorem dX3_gainAt_92 : decode cX3_gainAt 92 = .ok (.goto 4, 3) := by decide +kernel
theorem dX3_gainAt_95 : decode cX3_gainAt 95 = .ok (.iconst 0, 1) := by decide +kernel
theorem dX3_gainAt_96 : decode cX3_gainAt 96 = .ok (.aload_n 1, 1) := by decide +kernel
theorem dX3_gainAt_97 : decode cX3_gainAt 97 = .ok (.getfield 65, 3) := by decide +kernel
theorem dX3_gainAt_100 : decode cX3_gainAt 100 = .ok (.isub, 1) := by decide +kernel
theorem dX3_gainAt_101 : decode cX3_gainAt 101 = .ok (.ireturn, 1) := by decide +kernel
theorem dX3_gainAt_102 : decode cX3_gainAt 102 = .ok (.aload_n 0, 1) := by decide +kernel
theorem dX3_gainAt_103 : decode cX3_gainAt 103 = .ok (.getfield 18, 3) := by decide +kernel
theorem dX3_gainAt_106 : decode cX3_gainAt 106 = .ok (.getfield 38, 3) := by decide +kernel
theorem dX3_gainAt_109 : decode cX3_gainAt 109 = .ok (.iconst (-1), 1) := by decide +kernel
theorem dX3_gainAt_110 : decode cX3_gainAt 110 = .ok (.if_icmp .eq 5, 3) := by decide +kernel
theorem dX3_gainAt_113 : decode cX3_gainAt 113 = .ok (.iconst 0, 1) := by decide +kernel
theorem dX3_gainAt_114 : decode cX3_gainAt 114 = .ok (.ireturn, 1) := by decide +kernel
theorem dX3_gainAt_115 : decode cX3_gainAt 115 = .ok (.iinc 6 1, 3) := by decide +kernel
theorem dX3_gainAt_118 : decode cX3_gainAt 118 = .ok (.goto (-97), 3) := by decide +kernel
theorem dX3_gainAt_121 : decode cX3_gainAt 121 = .ok (.iinc 5 1, 3) := by decide +kernel
theorem dX3_gainAt_124 : decode cX3_gainAt 124 = .ok (.goto (-113), 3) := by decide +kernel
theorem dX3_gainAt_127 : decode cX3_gainAt 127 = .ok (.iconst 0, 1) := by decide +kernel
theorem dX3_gainAt_128 : decode cX3_gainAt 128 = .ok (.ireturn, 1) := by decide +kernel
theorem dX4_init_0 : decode cX4_init 0 = .ok (.aload_n 0, 1) := by decide +kernel
theorem dX4_init_1 : decode cX4_init 1 = .ok (.invokespecial 3, 3) := by decide +kernel
theorem dX4_init_4 : decode cX4_init 4 = .ok (.bipush 6, 2) := by decide +kernel
theorem dX4_init_6 : decode cX4_init 6 = .ok (.bipush 6, 2) := by decide +kernel
theorem dX4_init_8 : decode cX4_init 8 = .ok (.invokestatic 9, 3) := by decide +kernel
theorem dX4_init_11 : decode cX4_init 11 = .ok (.istore_n 1, 1) := by decide +kernel
theorem dX4_init_12 : decode cX4_init 12 = .ok (.aload_n 0, 1) := by decide +kernel
theorem dX4_init_13 : decode cX4_init 13 = .ok (.iload_n 1, 1) := by decide +kernel
theorem dX4_init_14 : decode cX4_init 14 = .ok (.anewarray 15, 3) := by decide +kernel
theorem dX4_init_17 : decode cX4_init 17 = .ok (.putfield 17, 3) := by decide +kernel
theorem dX4_init_20 : decode cX4_init 20 = .ok (.iconst 0, 1) := by decide +kernel
theorem dX4_init_21 : decode cX4_init 21 = .ok (.istore_n 2, 1) := by decide +kernel
theorem dX4_init_22 : decode cX4_init 22 = .ok (.iload_n 2, 1) := by decide +kernel
theorem dX4_init_23 : decode cX4_init 23 = .ok (.aload_n 0, 1) := by decide +kernel
theorem dX4_init_24 : decode cX4_init 24 = .ok (.getfield 17, 3) := by decide +kernel
theorem dX4_init_27 : decode cX4_init 27 = .ok (.arraylength, 1) := by decide +kernel
theorem dX4_init_28 : decode cX4_init 28 = .ok (.if_icmp .ge 22, 3) := by decide +kernel
theorem dX4_init_31 : decode cX4_init 31 = .ok (.aload_n 0, 1) := by decide +kernel
theorem dX4_init_32 : decode cX4_init 32 = .ok (.getfield 17, 3) := by decide +kernel
theorem dX4_init_35 : decode cX4_init 35 = .ok (.iload_n 2, 1) := by decide +kernel
theorem dX4_init_36 : decode cX4_init 36 = .ok (.new 15, 3) := by decide +kernel
theorem dX4_init_39 : decode cX4_init 39 = .ok (.dup, 1) := by decide +kernel
theorem dX4_init_40 : decode cX4_init 40 = .ok (.invokespecial 23, 3) := by decide +kernel
theorem dX4_init_43 : decode cX4_init 43 = .ok (.aastore, 1) := by decide +kernel
theorem dX4_init_44 : decode cX4_init 44 = .ok (.iinc 2 1, 3) := by decide +kernel
theorem dX4_init_47 : decode cX4_init 47 = .ok (.goto (-25), 3) := by decide +kernel
theorem dX4_init_50 : decode cX4_init 50 = .ok (.aload_n 0, 1) := by decide +kernel
theorem dX4_init_51 : decode cX4_init 51 = .ok (.iload_n 1, 1) := by decide +kernel
theorem dX4_init_52 : decode cX4_init 52 = .ok (.newarray .int, 2) := by decide +kernel
theorem dX4_init_54 : decode cX4_init 54 = .ok (.putfield 24, 3) := by decide +kernel
theorem dX4_init_57 : decode cX4_init 57 = .ok (.aload_n 0, 1) := by decide +kernel
theorem dX4_init_58 : decode cX4_init 58 = .ok (.bipush 6, 2) := by decide +kernel
theorem dX4_init_60 : decode cX4_init 60 = .ok (.newarray .int, 2) := by decide +kernel
theorem dX4_init_62 : decode cX4_init 62 = .ok (.putfield 28, 3) := by decide +kernel
theorem dX4_init_65 : decode cX4_init 65 = .ok (.aload_n 0, 1) := by decide +kernel
theorem dX4_init_66 : decode cX4_init 66 = .ok (.bipush 6, 2) := by decide +kernel
theorem dX4_init_68 : decode cX4_init 68 = .ok (.bipush 6, 2) := by decide +kernel
theorem dX4_init_70 : decode cX4_init 70 = .ok (.multianewarray 31 2, 4) := by decide +kernel
theorem dX4_init_74 : decode cX4_init 74 = .ok (.putfield 33, 3) := by decide +kernel
theorem dX4_init_77 : decode cX4_init 77 = .ok (.aload_n 0, 1) := by decide +kernel
theorem dX4_init_78 : decode cX4_init 78 = .ok (.bipush 6, 2) := by decide +kernel
theorem dX4_init_80 : decode cX4_init 80 = .ok (.newarray .int, 2) := by decide +kernel
theorem dX4_init_82 : decode cX4_init 82 = .ok (.putfield 36, 3) := by decide +kernel
theorem dX4_init_85 : decode cX4_init 85 = .ok (.aload_n 0, 1) := by decide +kernel
theorem dX4_init_86 : decode cX4_init 86 = .ok (.bipush 6, 2) := by decide +kernel
theorem dX4_init_88 : decode cX4_init 88 = .ok (.newarray .boolean, 2) := by decide +kernel
theorem dX4_init_90 : decode cX4_init 90 = .ok (.putfield 39, 3) := by decide +kernel
theorem dX4_init_93 : decode cX4_init 93 = .ok (.return_, 1) := by decide +kernel
theorem dX4_forget_0 : decode cX4_forget 0 = .ok (.aload_n 0, 1) := by decide +kernel
theorem dX4_forget_1 : decode cX4_forget 1 = .ok (.iconst 0, 1) := by decide +kernel
theorem dX4_forget_2 : decode cX4_forget 2 = .ok (.putfield 43, 3) := by decide +kernel
theorem dX4_forget_5 : decode cX4_forget 5 = .ok (.iconst 0, 1) := by decide +kernel
theorem dX4_forget_6 : decode cX4_forget 6 = .ok (.istore_n 1, 1) := by decide +kernel
theorem dX4_forget_7 : decode cX4_forget 7 = .ok (.iload_n 1, 1) := by decide +kernel
theorem dX4_forget_8 : decode cX4_forget 8 = .ok (.aload_n 0, 1) := by decide +kernel
theorem dX4_forget_9 : decode cX4_forget 9 = .ok (.getfield 39, 3) := by decide +kernel
theorem dX4_forget_12 : decode cX4_forget 12 = .ok (.arraylength, 1) := by decide +kernel
theorem dX4_forget_13 : decode cX4_forget 13 = .ok (.if_icmp .ge 16, 3) := by decide +kernel
theorem dX4_forget_16 : decode cX4_forget 16 = .ok (.aload_n 0, 1) := by decide +kernel
theorem dX4_forget_17 : decode cX4_forget 17 = .ok (.getfield 39, 3) := by decide +kernel
theorem dX4_forget_20 : decode cX4_forget 20 = .ok (.iload_n 1, 1) := by decide +kernel
theorem dX4_forget_21 : decode cX4_forget 21 = .ok (.iconst 0, 1) := by decide +kernel
theorem dX4_forget_22 : decode cX4_forget 22 = .ok (.bastore, 1) := by decide +kernel
theorem dX4_forget_23 : decode cX4_forget 23 = .ok (.iinc 1 1, 3) := by decide +kernel
theorem dX4_forget_26 : decode cX4_forget 26 = .ok (.goto (-19), 3) := by decide +kernel
theorem dX4_forget_29 : decode cX4_forget 29 = .ok (.return_, 1) := by decide +kernel
theorem dX4_ofAll_0 : decode cX4_ofAll 0 = .ok (.aload_n 0, 1) := by decide +kernel
theorem dX4_ofAll_1 : decode cX4_ofAll 1 = .ok (.getfield 43, 3) := by decide +kernel
theorem dX4_ofAll_4 : decode cX4_ofAll 4 = .ok (.ifCond .ne 9, 3) := by decide +kernel
theorem dX4_ofAll_7 : decode cX4_ofAll 7 = .ok (.aload_n 0, 1) := by decide +kernel
theorem dX4_ofAll_8 : decode cX4_ofAll 8 = .ok (.aload_n 1, 1) := by decide +kernel
theorem dX4_ofAll_9 : decode cX4_ofAll 9 = .ok (.aload_n 2, 1) := by decide +kernel
theorem dX4_ofAll_10 : decode cX4_ofAll 10 = .ok (.invokevirtual 47, 3) := by decide +kernel
theorem dX4_ofAll_13 : decode cX4_ofAll 13 = .ok (.iload_n 3, 1) := by decide +kernel
theorem dX4_ofAll_14 : decode cX4_ofAll 14 = .ok (.iconst (-1), 1) := by decide +kernel
theorem dX4_ofAll_15 : decode cX4_ofAll 15 = .ok (.if_icmp .eq 11, 3) := by decide +kernel
theorem dX4_ofAll_18 : decode cX4_ofAll 18 = .ok (.aload_n 0, 1) := by decide +kernel
theorem dX4_ofAll_19 : decode cX4_ofAll 19 = .ok (.getfield 51, 3) := by decide +kernel
theorem dX4_ofAll_22 : decode cX4_ofAll 22 = .ok (.iconst (-1), 1) := by decide +kernel
theorem dX4_ofAll_23 : decode cX4_ofAll 23 = .ok (.if_icmp .ne 8, 3) := by decide +kernel
theorem dX4_ofAll_26 : decode cX4_ofAll 26 = .ok (.aload_n 0, 1) := by decide +kernel
theorem dX4_ofAll_27 : decode cX4_ofAll 27 = .ok (.getfield 51, 3) := by decide +kernel
theorem dX4_ofAll_30 : decode cX4_ofAll 30 = .ok (.ireturn, 1) := by decide +kernel
theorem dX4_ofAll_31 : decode cX4_ofAll 31 = .ok (.iload_n 3, 1) := by decide +kernel
theorem dX4_ofAll_32 : decode cX4_ofAll 32 = .ok (.bipush (-2), 2) := by decide +kernel
theorem dX4_ofAll_34 : decode cX4_ofAll 34 = .ok (.if_icmp .ne 12, 3) := by decide +kernel
theorem dX4_ofAll_37 : decode cX4_ofAll 37 = .ok (.aload_n 0, 1) := by decide +kernel
theorem dX4_ofAll_38 : decode cX4_ofAll 38 = .ok (.getfield 51, 3) := by decide +kernel
theorem dX4_ofAll_41 : decode cX4_ofAll 41 = .ok (.iconst 1, 1) := by decide +kernel
theorem dX4_ofAll_42 : decode cX4_ofAll 42 = .ok (.isub, 1) := by decide +kernel
theorem dX4_ofAll_43 : decode cX4_ofAll 43 = .ok (.goto 4, 3) := by decide +kernel
theorem dX4_ofAll_46 : decode cX4_ofAll 46 = .ok (.iload_n 3, 1) := by decide +kernel
theorem dX4_ofAll_47 : decode cX4_ofAll 47 = .ok (.istore 4, 2) := by decide +kernel
theorem dX4_ofAll_49 : decode cX4_ofAll 49 = .ok (.iload 4, 2) := by decide +kernel
theorem dX4_ofAll_51 : decode cX4_ofAll 51 = .ok (.ifCond .lt 32, 3) := by decide +kernel
theorem dX4_ofAll_54 : decode cX4_ofAll 54 = .ok (.iload 4, 2) := by decide +kernel
theorem dX4_ofAll_56 : decode cX4_ofAll 56 = .ok (.aload_n 1, 1) := by decide +kernel
theorem dX4_ofAll_57 : decode cX4_ofAll 57 = .ok (.getfield 55, 3) := by decide +kernel
theorem dX4_ofAll_60 : decode cX4_ofAll 60 = .ok (.if_icmp .ge 23, 3) := by decide +kernel
theorem dX4_ofAll_63 : decode cX4_ofAll 63 = .ok (.iload 4, 2) := by decide +kernel
theorem dX4_ofAll_65 : decode cX4_ofAll 65 = .ok (.aload_n 0, 1) := by decide +kernel
theorem dX4_ofAll_66 : decode cX4_ofAll 66 = .ok (.getfield 28, 3) := by decide +kernel
theorem dX4_ofAll_69 : decode cX4_ofAll 69 = .ok (.arraylength, 1) := by decide +kernel
theorem dX4_ofAll_70 : decode cX4_ofAll 70 = .ok (.if_icmp .ge 13, 3) := by decide +kernel
theorem dX4_ofAll_73 : decode cX4_ofAll 73 = .ok (.aload_n 0, 1) := by decide +kernel
theorem dX4_ofAll_74 : decode cX4_ofAll 74 = .ok (.getfield 28, 3) := by decide +kernel
theorem dX4_ofAll_77 : decode cX4_ofAll 77 = .ok (.iload 4, 2) := by decide +kernel
theorem dX4_ofAll_79 : decode cX4_ofAll 79 = .ok (.iaload, 1) := by decide +kernel
theorem dX4_ofAll_80 : decode cX4_ofAll 80 = .ok (.goto 4, 3) := by decide +kernel
theorem dX4_ofAll_83 : decode cX4_ofAll 83 = .ok (.iconst (-1), 1) := by decide +kernel
theorem dX4_ofAll_84 : decode cX4_ofAll 84 = .ok (.ireturn, 1) := by decide +kernel
theorem dX4_findAll_0 : decode cX4_findAll 0 = .ok (.aload_n 0, 1) := by decide +kernel
theorem dX4_findAll_1 : decode cX4_findAll 1 = .ok (.iconst 1, 1) := by decide +kernel
theorem dX4_findAll_2 : decode cX4_findAll 2 = .ok (.putfield 60, 3) := by decide +kernel
theorem dX4_findAll_5 : decode cX4_findAll 5 = .ok (.aload_n 0, 1) := by decide +kernel
theorem dX4_findAll_6 : decode cX4_findAll 6 = .ok (.iconst (-1), 1) := by decide +kernel
theorem dX4_findAll_7 : decode cX4_findAll 7 = .ok (.putfield 63, 3) := by decide +kernel
theorem dX4_findAll_10 : decode cX4_findAll 10 = .ok (.aload_n 0, 1) := by decide +kernel
theorem dX4_findAll_11 : decode cX4_findAll 11 = .ok (.aload_n 0, 1) := by decide +kernel
theorem dX4_findAll_12 : decode cX4_findAll 12 = .ok (.aload_n 1, 1) := by decide +kernel
theorem dX4_findAll_13 : decode cX4_findAll 13 = .ok (.aload_n 2, 1) := by decide +kernel
theorem dX4_findAll_14 : decode cX4_findAll 14 = .ok (.aload_n 1, 1) := by decide +kernel
theorem dX4_findAll_15 : decode cX4_findAll 15 = .ok (.getfield 55, 3) := by decide +kernel
theorem dX4_findAll_18 : decode cX4_findAll 18 = .ok (.invokevirtual 66, 3) := by decide +kernel
theorem dX4_findAll_21 : decode cX4_findAll 21 = .ok (.putfield 51, 3) := by decide +kernel
theorem dX4_findAll_24 : decode cX4_findAll 24 = .ok (.aload_n 0, 1) := by decide +kernel
theorem dX4_findAll_25 : decode cX4_findAll 25 = .ok (.iconst 1, 1) := by decide +kernel
theorem dX4_findAll_26 : decode cX4_findAll 26 = .ok (.putfield 43, 3) := by decide +kernel
theorem dX4_findAll_29 : decode cX4_findAll 29 = .ok (.iconst 0, 1) := by decide +kernel
theorem dX4_findAll_30 : decode cX4_findAll 30 = .ok (.istore_n 3, 1) := by decide +kernel
theorem dX4_findAll_31 : decode cX4_findAll 31 = .ok (.iconst 0, 1) := by decide +kernel
theorem dX4_findAll_32 : decode cX4_findAll 32 = .ok (.istore 4, 2) := by decide +kernel
theorem dX4_findAll_34 : decode cX4_findAll 34 = .ok (.iload 4, 2) := by decide +kernel
theorem dX4_findAll_36 : decode cX4_findAll 36 = .ok (.aload_n 0, 1) := by decide +kernel
theorem dX4_findAll_37 : decode cX4_findAll 37 = .ok (.getfield 51, 3) := by decide +kernel
theorem dX4_findAll_40 : decode cX4_findAll 40 = .ok (.if_icmp .ge 55, 3) := by decide +kernel
theorem dX4_findAll_43 : decode cX4_findAll 43 = .ok (.iload 4, 2) := by decide +kernel
theorem dX4_findAll_45 : decode cX4_findAll 45 = .ok (.aload_n 0, 1) := by decide +kernel
theorem dX4_findAll_46 : decode cX4_findAll 46 = .ok (.getfield 28, 3) := by decide +kernel
theorem dX4_findAll_49 : decode cX4_findAll 49 = .ok (.arraylength, 1) := by decide +kernel
theorem dX4_findAll_50 : decode cX4_findAll 50 = .ok (.if_icmp .ge 45, 3) := by decide +kernel
theorem dX4_findAll_53 : decode cX4_findAll 53 = .ok (.iload 4, 2) := by decide +kernel
theorem dX4_findAll_55 : decode cX4_findAll 55 = .ok (.aload_n 0, 1) := by decide +kernel
theorem dX4_findAll_56 : decode cX4_findAll 56 = .ok (.getfield 24, 3) := by decide +kernel
theorem dX4_findAll_59 : decode cX4_findAll 59 = .ok (.arraylength, 1) := by decide +kernel
theorem dX4_findAll_60 : decode cX4_findAll 60 = .ok (.if_icmp .ge 35, 3) := by decide +kernel
theorem dX4_findAll_63 : decode cX4_findAll 63 = .ok (.aload_n 0, 1) := by decide +kernel
theorem dX4_findAll_64 : decode cX4_findAll 64 = .ok (.getfield 28, 3) := by decide +kernel
theorem dX4_findAll_67 : decode cX4_findAll 67 = .ok (.iload 4, 2) := by decide +kernel
theorem dX4_findAll_69 : decode cX4_findAll 69 = .ok (.aload_n 0, 1) := by decide +kernel
theorem dX4_findAll_70 : decode cX4_findAll 70 = .ok (.getfield 24, 3) := by decide +kernel
theorem dX4_findAll_73 : decode cX4_findAll 73 = .ok (.iload 4, 2) := by decide +kernel
theorem dX4_findAll_75 : decode cX4_findAll 75 = .ok (.iaload, 1) := by decide +kernel
theorem dX4_findAll_76 : decode cX4_findAll 76 = .ok (.iastore, 1) := by decide +kernel
theorem dX4_findAll_77 : decode cX4_findAll 77 = .ok (.iload_n 3, 1) := by decide +kernel
theorem dX4_findAll_78 : decode cX4_findAll 78 = .ok (.iconst 1, 1) := by decide +kernel
theorem dX4_findAll_79 : decode cX4_findAll 79 = .ok (.aload_n 0, 1) := by decide +kernel
theorem dX4_findAll_80 : decode cX4_findAll 80 = .ok (.getfield 24, 3) := by decide +kernel
theorem dX4_findAll_83 : decode cX4_findAll 83 = .ok (.iload 4, 2) := by decide +kernel
theorem dX4_findAll_85 : decode cX4_findAll 85 = .ok (.iaload, 1) := by decide +kernel
theorem dX4_findAll_86 : decode cX4_findAll 86 = .ok (.ishl, 1) := by decide +kernel
theorem dX4_findAll_87 : decode cX4_findAll 87 = .ok (.ior, 1) := by decide +kernel
theorem dX4_findAll_88 : decode cX4_findAll 88 = .ok (.istore_n 3, 1) := by decide +kernel
theorem dX4_findAll_89 : decode cX4_findAll 89 = .ok (.iinc 4 1, 3) := by decide +kernel
theorem dX4_findAll_92 : decode cX4_findAll 92 = .ok (.goto (-58), 3) := by decide +kernel
theorem dX4_findAll_95 : decode cX4_findAll 95 = .ok (.aload_n 0, 1) := by decide +kernel
theorem dX4_findAll_96 : decode cX4_findAll 96 = .ok (.getfield 51, 3) := by decide +kernel
theorem dX4_findAll_99 : decode cX4_findAll 99 = .ok (.iconst 0, 1) := by decide +kernel
theorem dX4_findAll_100 : decode cX4_findAll 100 = .ok (.invokestatic 9, 3) := by decide +kernel
theorem dX4_findAll_103 : decode cX4_findAll 103 = .ok (.istore 4, 2) := by decide +kernel
theorem dX4_findAll_105 : decode cX4_findAll 105 = .ok (.iconst 0, 1) := by decide +kernel
theorem dX4_findAll_106 : decode cX4_findAll 106 = .ok (.istore 5, 2) := by decide +kernel
theorem dX4_findAll_108 : decode cX4_findAll 108 = .ok (.iload 5, 2) := by decide +kernel
theorem dX4_findAll_110 : decode cX4_findAll 110 = .ok (.aload_n 1, 1) := by decide +kernel
theorem dX4_findAll_111 : decode cX4_findAll 111 = .ok (.getfield 55, 3) := by decide +kernel
theorem dX4_findAll_114 : decode cX4_findAll 114 = .ok (.if_icmp .ge 40, 3) := by decide +kernel
theorem dX4_findAll_117 : decode cX4_findAll 117 = .ok (.iload 4, 2) := by decide +kernel
theorem dX4_findAll_119 : decode cX4_findAll 119 = .ok (.aload_n 0, 1) := by decide +kernel
theorem dX4_findAll_120 : decode cX4_findAll 120 = .ok (.getfield 28, 3) := by decide +kernel
theorem dX4_findAll_123 : decode cX4_findAll 123 = .ok (.arraylength, 1) := by decide +kernel
theorem dX4_findAll_124 : decode cX4_findAll 124 = .ok (.if_icmp .ge 30, 3) := by decide +kernel
theorem dX4_findAll_127 : decode cX4_findAll 127 = .ok (.iload_n 3, 1) := by decide +kernel
theorem dX4_findAll_128 : decode cX4_findAll 128 = .ok (.iload 5, 2) := by decide +kernel
theorem dX4_findAll_130 : decode cX4_findAll 130 = .ok (.ishr, 1) := by decide +kernel
theorem dX4_findAll_131 : decode cX4_findAll 131 = .ok (.iconst 1, 1) := by decide +kernel
theorem dX4_findAll_132 : decode cX4_findAll 132 = .ok (.iand, 1) := by decide +kernel
theorem dX4_findAll_133 : decode cX4_findAll 133 = .ok (.ifCond .ne 15, 3) := by decide +kernel
theorem dX4_findAll_136 : decode cX4_findAll 136 = .ok (.aload_n 0, 1) := by decide +kernel
theorem dX4_findAll_137 : decode cX4_findAll 137 = .ok (.getfield 28, 3) := by decide +kernel
theorem dX4_findAll_140 : decode cX4_findAll 140 = .ok (.iload 4, 2) := by decide +kernel
theorem dX4_findAll_142 : decode cX4_findAll 142 = .ok (.iload 5, 2) := by decide +kernel
theorem dX4_findAll_144 : decode cX4_findAll 144 = .ok (.iastore, 1) := by decide +kernel
theorem dX4_findAll_145 : decode cX4_findAll 145 = .ok (.iinc 4 1, 3) := by decide +kernel
theorem dX4_findAll_148 : decode cX4_findAll 148 = .ok (.iinc 5 1, 3) := by decide +kernel
theorem dX4_findAll_151 : decode cX4_findAll 151 = .ok (.goto (-43), 3) := by decide +kernel
theorem dX4_findAll_154 : decode cX4_findAll 154 = .ok (.return_, 1) := by decide +kernel
theorem dX4_ofOne_0 : decode cX4_ofOne 0 = .ok (.iload_n 3, 1) := by decide +kernel
theorem dX4_ofOne_1 : decode cX4_ofOne 1 = .ok (.ifCond .lt 30, 3) := by decide +kernel
theorem dX4_ofOne_4 : decode cX4_ofOne 4 = .ok (.iload_n 3, 1) := by decide +kernel
theorem dX4_ofOne_5 : decode cX4_ofOne 5 = .ok (.aload_n 0, 1) := by decide +kernel
theorem dX4_ofOne_6 : decode cX4_ofOne 6 = .ok (.getfield 39, 3) := by decide +kernel
theorem dX4_ofOne_9 : decode cX4_ofOne 9 = .ok (.arraylength, 1) := by decide +kernel
theorem dX4_ofOne_10 : decode cX4_ofOne 10 = .ok (.if_icmp .ge 21, 3) := by decide +kernel
theorem dX4_ofOne_13 : decode cX4_ofOne 13 = .ok (.iload_n 3, 1) := by decide +kernel
theorem dX4_ofOne_14 : decode cX4_ofOne 14 = .ok (.aload_n 0, 1) := by decide +kernel
theorem dX4_ofOne_15 : decode cX4_ofOne 15 = .ok (.getfield 36, 3) := by decide +kernel
theorem dX4_ofOne_18 : decode cX4_ofOne 18 = .ok (.arraylength, 1) := by decide +kernel
theorem dX4_ofOne_19 : decode cX4_ofOne 19 = .ok (.if_icmp .ge 12, 3) := by decide +kernel
theorem dX4_ofOne_22 : decode cX4_ofOne 22 = .ok (.iload_n 3, 1) := by decide +kernel
theorem dX4_ofOne_23 : decode cX4_ofOne 23 = .ok (.aload_n 0, 1) := by decide +kernel
theorem dX4_ofOne_24 : decode cX4_ofOne 24 = .ok (.getfield 33, 3) := by decide +kernel
theorem dX4_ofOne_27 : decode cX4_ofOne 27 = .ok (.arraylength, 1) := by decide +kernel
theorem dX4_ofOne_28 : decode cX4_ofOne 28 = .ok (.if_icmp .lt 5, 3) := by decide +kernel
theorem dX4_ofOne_31 : decode cX4_ofOne 31 = .ok (.iconst (-1), 1) := by decide +kernel
theorem dX4_ofOne_32 : decode cX4_ofOne 32 = .ok (.ireturn, 1) := by decide +kernel
theorem dX4_ofOne_33 : decode cX4_ofOne 33 = .ok (.aload_n 0, 1) := by decide +kernel
theorem dX4_ofOne_34 : decode cX4_ofOne 34 = .ok (.getfield 39, 3) := by decide +kernel
theorem dX4_ofOne_37 : decode cX4_ofOne 37 = .ok (.iload_n 3, 1) := by decide +kernel
theorem dX4_ofOne_38 : decode cX4_ofOne 38 = .ok (.baload, 1) := by decide +kernel
theorem dX4_ofOne_39 : decode cX4_ofOne 39 = .ok (.ifCond .ne 47, 3) := by decide +kernel
theorem dX4_ofOne_42 : decode cX4_ofOne 42 = .ok (.aload_n 0, 1) := by decide +kernel
theorem dX4_ofOne_43 : decode cX4_ofOne 43 = .ok (.iconst 0, 1) := by decide +kernel
theorem dX4_ofOne_44 : decode cX4_ofOne 44 = .ok (.putfield 60, 3) := by decide +kernel
theorem dX4_ofOne_47 : decode cX4_ofOne 47 = .ok (.aload_n 0, 1) := by decide +kernel
theorem dX4_ofOne_48 : decode cX4_ofOne 48 = .ok (.iload_n 3, 1) := by decide +kernel
theorem dX4_ofOne_49 : decode cX4_ofOne 49 = .ok (.putfield 63, 3) := by decide +kernel
theorem dX4_ofOne_52 : decode cX4_ofOne 52 = .ok (.aload_n 0, 1) := by decide +kernel
theorem dX4_ofOne_53 : decode cX4_ofOne 53 = .ok (.getfield 36, 3) := by decide +kernel
theorem dX4_ofOne_56 : decode cX4_ofOne 56 = .ok (.iload_n 3, 1) := by decide +kernel
theorem dX4_ofOne_57 : decode cX4_ofOne 57 = .ok (.aload_n 0, 1) := by decide +kernel
theorem dX4_ofOne_58 : decode cX4_ofOne 58 = .ok (.aload_n 1, 1) := by decide +kernel
theorem dX4_ofOne_59 : decode cX4_ofOne 59 = .ok (.aload_n 2, 1) := by decide +kernel
theorem dX4_ofOne_60 : decode cX4_ofOne 60 = .ok (.bipush 6, 2) := by decide +kernel
theorem dX4_ofOne_62 : decode cX4_ofOne 62 = .ok (.invokevirtual 66, 3) := by decide +kernel
theorem dX4_ofOne_65 : decode cX4_ofOne 65 = .ok (.iastore, 1) := by decide +kernel
theorem dX4_ofOne_66 : decode cX4_ofOne 66 = .ok (.aload_n 0, 1) := by decide +kernel
theorem dX4_ofOne_67 : decode cX4_ofOne 67 = .ok (.getfield 39, 3) := by decide +kernel
theorem dX4_ofOne_70 : decode cX4_ofOne 70 = .ok (.iload_n 3, 1) := by decide +kernel
theorem dX4_ofOne_71 : decode cX4_ofOne 71 = .ok (.iconst 1, 1) := by decide +kernel
theorem dX4_ofOne_72 : decode cX4_ofOne 72 = .ok (.bastore, 1) := by decide +kernel
theorem dX4_ofOne_73 : decode cX4_ofOne 73 = .ok (.aload_n 0, 1) := by decide +kernel
theorem dX4_ofOne_74 : decode cX4_ofOne 74 = .ok (.getfield 24, 3) := by decide +kernel
theorem dX4_ofOne_77 : decode cX4_ofOne 77 = .ok (.aload_n 0, 1) := by decide +kernel
theorem dX4_ofOne_78 : decode cX4_ofOne 78 = .ok (.getfield 33, 3) := by decide +kernel
theorem dX4_ofOne_81 : decode cX4_ofOne 81 = .ok (.iload_n 3, 1) := by decide +kernel
theorem dX4_ofOne_82 : decode cX4_ofOne 82 = .ok (.aaload, 1) := by decide +kernel
theorem dX4_ofOne_83 : decode cX4_ofOne 83 = .ok (.invokestatic 70, 3) := by decide +kernel
theorem dX4_ofOne_86 : decode cX4_ofOne 86 = .ok (.iload 4, 2) := by decide +kernel
theorem dX4_ofOne_88 : decode cX4_ofOne 88 = .ok (.iconst (-1), 1) := by decide +kernel
theorem dX4_ofOne_89 : decode cX4_ofOne 89 = .ok (.if_icmp .ne 10, 3) := by decide +kernel
theorem dX4_ofOne_92 : decode cX4_ofOne 92 = .ok (.aload_n 0, 1) := by decide +kernel
theorem dX4_ofOne_93 : decode cX4_ofOne 93 = .ok (.getfield 36, 3) := by decide +kernel
theorem dX4_ofOne_96 : decode cX4_ofOne 96 = .ok (.iload_n 3, 1) := by decide +kernel
theorem dX4_ofOne_97 : decode cX4_ofOne 97 = .ok (.iaload, 1) := by decide +kernel
theorem dX4_ofOne_98 : decode cX4_ofOne 98 = .ok (.ireturn, 1) := by decide +kernel
theorem dX4_ofOne_99 : decode cX4_ofOne 99 = .ok (.iload 4, 2) := by decide +kernel
theorem dX4_ofOne_101 : decode cX4_ofOne 101 = .ok (.ifCond .lt 38, 3) := by decide +kernel
theorem dX4_ofOne_104 : decode cX4_ofOne 104 = .ok (.iload 4, 2) := by decide +kernel
theorem dX4_ofOne_106 : decode cX4_ofOne 106 = .ok (.aload_n 0, 1) := by decide +kernel
theorem dX4_ofOne_107 : decode cX4_ofOne 107 = .ok (.getfield 36, 3) := by decide +kernel
theorem dX4_ofOne_110 : decode cX4_ofOne 110 = .ok (.iload_n 3, 1) := by decide +kernel
theorem dX4_ofOne_111 : decode cX4_ofOne 111 = .ok (.iaload, 1) := by decide +kernel
theorem dX4_ofOne_112 : decode cX4_ofOne 112 = .ok (.if_icmp .ge 27, 3) := by decide +kernel
theorem dX4_ofOne_115 : decode cX4_ofOne 115 = .ok (.iload 4, 2) := by decide +kernel
theorem dX4_ofOne_117 : decode cX4_ofOne 117 = .ok (.aload_n 0, 1) := by decide +kernel
theorem dX4_ofOne_118 : decode cX4_ofOne 118 = .ok (.getfield 33, 3) := by decide +kernel
theorem dX4_ofOne_121 : decode cX4_ofOne 121 = .ok (.iload_n 3, 1) := by decide +kernel
theorem dX4_ofOne_122 : decode cX4_ofOne 122 = .ok (.aaload, 1) := by decide +kernel
theorem dX4_ofOne_123 : decode cX4_ofOne 123 = .ok (.arraylength, 1) := by decide +kernel
theorem dX4_ofOne_124 : decode cX4_ofOne 124 = .ok (.if_icmp .ge 15, 3) := by decide +kernel
theorem dX4_ofOne_127 : decode cX4_ofOne 127 = .ok (.aload_n 0, 1) := by decide +kernel
theorem dX4_ofOne_128 : decode cX4_ofOne 128 = .ok (.getfield 33, 3) := by decide +kernel
theorem dX4_ofOne_131 : decode cX4_ofOne 131 = .ok (.iload_n 3, 1) := by decide +kernel
theorem dX4_ofOne_132 : decode cX4_ofOne 132 = .ok (.aaload, 1) := by decide +kernel
theorem dX4_ofOne_133 : decode cX4_ofOne 133 = .ok (.iload 4, 2) := by decide +kernel
theorem dX4_ofOne_135 : decode cX4_ofOne 135 = .ok (.iaload, 1) := by decide +kernel
theorem dX4_ofOne_136 : decode cX4_ofOne 136 = .ok (.goto 4, 3) := by decide +kernel
theorem dX4_ofOne_139 : decode cX4_ofOne 139 = .ok (.iconst (-1), 1) := by decide +kernel
theorem dX4_ofOne_140 : decode cX4_ofOne 140 = .ok (.ireturn, 1) := by decide +kernel
theorem dX4_fewestGoes_0 : decode cX4_fewestGoes 0 = .ok (.aload_n 2, 1) := by decide +kernel
theorem dX4_fewestGoes_1 : decode cX4_fewestGoes 1 = .ok (.getfield 74, 3) := by decide +kernel
theorem dX4_fewestGoes_4 : decode cX4_fewestGoes 4 = .ok (.iconst (-1), 1) := by decide +kernel
theorem dX4_fewestGoes_5 : decode cX4_fewestGoes 5 = .ok (.if_icmp .eq 5, 3) := by decide +kernel
theorem dX4_fewestGoes_8 : decode cX4_fewestGoes 8 = .ok (.iconst (-1), 1) := by decide +kernel
theorem dX4_fewestGoes_9 : decode cX4_fewestGoes 9 = .ok (.ireturn, 1) := by decide +kernel
theorem dX4_fewestGoes_10 : decode cX4_fewestGoes 10 = .ok (.iconst 1, 1) := by decide +kernel
theorem dX4_fewestGoes_11 : decode cX4_fewestGoes 11 = .ok (.istore 4, 2) := by decide +kernel
theorem dX4_fewestGoes_13 : decode cX4_fewestGoes 13 = .ok (.iload 4, 2) := by decide +kernel
theorem dX4_fewestGoes_15 : decode cX4_fewestGoes 15 = .ok (.iload_n 3, 1) := by decide +kernel
theorem dX4_fewestGoes_16 : decode cX4_fewestGoes 16 = .ok (.if_icmp .gt 29, 3) := by decide +kernel
theorem dX4_fewestGoes_19 : decode cX4_fewestGoes 19 = .ok (.aload_n 0, 1) := by decide +kernel
theorem dX4_fewestGoes_20 : decode cX4_fewestGoes 20 = .ok (.iload 4, 2) := by decide +kernel
theorem dX4_fewestGoes_22 : decode cX4_fewestGoes 22 = .ok (.putfield 77, 3) := by decide +kernel
theorem dX4_fewestGoes_25 : decode cX4_fewestGoes 25 = .ok (.aload_n 0, 1) := by decide +kernel
theorem dX4_fewestGoes_26 : decode cX4_fewestGoes 26 = .ok (.aload_n 1, 1) := by decide +kernel
theorem dX4_fewestGoes_27 : decode cX4_fewestGoes 27 = .ok (.aload_n 2, 1) := by decide +kernel
theorem dX4_fewestGoes_28 : decode cX4_fewestGoes 28 = .ok (.iconst 0, 1) := by decide +kernel
theorem dX4_fewestGoes_29 : decode cX4_fewestGoes 29 = .ok (.iconst 0, 1) := by decide +kernel
theorem dX4_fewestGoes_30 : decode cX4_fewestGoes 30 = .ok (.invokevirtual 80, 3) := by decide +kernel
theorem dX4_fewestGoes_33 : decode cX4_fewestGoes 33 = .ok (.ifCond .eq 6, 3) := by decide +kernel
theorem dX4_fewestGoes_36 : decode cX4_fewestGoes 36 = .ok (.iload 4, 2) := by decide +kernel
theorem dX4_fewestGoes_38 : decode cX4_fewestGoes 38 = .ok (.ireturn, 1) := by decide +kernel
theorem dX4_fewestGoes_39 : decode cX4_fewestGoes 39 = .ok (.iinc 4 1, 3) := by decide +kernel
theorem dX4_fewestGoes_42 : decode cX4_fewestGoes 42 = .ok (.goto (-29), 3) := by decide +kernel
theorem dX4_fewestGoes_45 : decode cX4_fewestGoes 45 = .ok (.iconst (-1), 1) := by decide +kernel
theorem dX4_fewestGoes_46 : decode cX4_fewestGoes 46 = .ok (.ireturn, 1) := by decide +kernel
theorem dX4_findFrom_0 : decode cX4_findFrom 0 = .ok (.aload_n 0, 1) := by decide +kernel
theorem dX4_findFrom_1 : decode cX4_findFrom 1 = .ok (.getfield 77, 3) := by decide +kernel
theorem dX4_findFrom_4 : decode cX4_findFrom 4 = .ok (.iconst 1, 1) := by decide +kernel
theorem dX4_findFrom_5 : decode cX4_findFrom 5 = .ok (.isub, 1) := by decide +kernel
theorem dX4_findFrom_6 : decode cX4_findFrom 6 = .ok (.iload_n 3, 1) := by decide +kernel
theorem dX4_findFrom_7 : decode cX4_findFrom 7 = .ok (.isub, 1) := by decide +kernel
theorem dX4_findFrom_8 : decode cX4_findFrom 8 = .ok (.istore 5, 2) := by decide +kernel
theorem dX4_findFrom_10 : decode cX4_findFrom 10 = .ok (.iload 5, 2) := by decide +kernel
theorem dX4_findFrom_12 : decode cX4_findFrom 12 = .ok (.ifCond .lt 25, 3) := by decide +kernel
theorem dX4_findFrom_15 : decode cX4_findFrom 15 = .ok (.iload_n 3, 1) := by decide +kernel
theorem dX4_findFrom_16 : decode cX4_findFrom 16 = .ok (.ifCond .lt 21, 3) := by decide +kernel
theorem dX4_findFrom_19 : decode cX4_findFrom 19 = .ok (.iload_n 3, 1) := by decide +kernel
theorem dX4_findFrom_20 : decode cX4_findFrom 20 = .ok (.aload_n 0, 1) := by decide +kernel
theorem dX4_findFrom_21 : decode cX4_findFrom 21 = .ok (.getfield 24, 3) := by decide +kernel
theorem dX4_findFrom_24 : decode cX4_findFrom 24 = .ok (.arraylength, 1) := by decide +kernel
theorem dX4_findFrom_25 : decode cX4_findFrom 25 = .ok (.if_icmp .ge 12, 3) := by decide +kernel
theorem dX4_findFrom_28 : decode cX4_findFrom 28 = .ok (.iload_n 3, 1) := by decide +kernel
theorem dX4_findFrom_29 : decode cX4_findFrom 29 = .ok (.aload_n 0, 1) := by decide +kernel
theorem dX4_findFrom_30 : decode cX4_findFrom 30 = .ok (.getfield 17, 3) := by decide +kernel
theorem dX4_findFrom_33 : decode cX4_findFrom 33 = .ok (.arraylength, 1) := by decide +kernel
theorem dX4_findFrom_34 : decode cX4_findFrom 34 = .ok (.if_icmp .lt 5, 3) := by decide +kernel
theorem dX4_findFrom_37 : decode cX4_findFrom 37 = .ok (.iconst 0, 1) := by decide +kernel
theorem dX4_findFrom_38 : decode cX4_findFrom 38 = .ok (.ireturn, 1) := by decide +kernel
theorem dX4_findFrom_39 : decode cX4_findFrom 39 = .ok (.aload_n 0, 1) := by decide +kernel
theorem dX4_findFrom_40 : decode cX4_findFrom 40 = .ok (.aload_n 1, 1) := by decide +kernel
theorem dX4_findFrom_41 : decode cX4_findFrom 41 = .ok (.aload_n 2, 1) := by decide +kernel
theorem dX4_findFrom_42 : decode cX4_findFrom 42 = .ok (.iload 5, 2) := by decide +kernel
theorem dX4_findFrom_44 : decode cX4_findFrom 44 = .ok (.invokevirtual 84, 3) := by decide +kernel
theorem dX4_findFrom_47 : decode cX4_findFrom 47 = .ok (.ifCond .eq 5, 3) := by decide +kernel
theorem dX4_findFrom_50 : decode cX4_findFrom 50 = .ok (.iconst 0, 1) := by decide +kernel
theorem dX4_findFrom_51 : decode cX4_findFrom 51 = .ok (.ireturn, 1) := by decide +kernel
theorem dX4_findFrom_52 : decode cX4_findFrom 52 = .ok (.iload 5, 2) := by decide +kernel
theorem dX4_findFrom_54 : decode cX4_findFrom 54 = .ok (.ifCond .ne 7, 3) := by decide +kernel
theorem dX4_findFrom_57 : decode cX4_findFrom 57 = .ok (.iconst 1, 1) := by decide +kernel
theorem dX4_findFrom_58 : decode cX4_findFrom 58 = .ok (.goto 4, 3) := by decide +kernel
theorem dX4_findFrom_61 : decode cX4_findFrom 61 = .ok (.iconst 0, 1) := by decide +kernel
theorem dX4_findFrom_62 : decode cX4_findFrom 62 = .ok (.istore 6, 2) := by decide +kernel
theorem dX4_findFrom_64 : decode cX4_findFrom 64 = .ok (.iconst 0, 1) := by decide +kernel
theorem dX4_findFrom_65 : decode cX4_findFrom 65 = .ok (.istore 7, 2) := by decide +kernel
theorem dX4_findFrom_67 : decode cX4_findFrom 67 = .ok (.iload 7, 2) := by decide +kernel
theorem dX4_findFrom_69 : decode cX4_findFrom 69 = .ok (.aload_n 1, 1) := by decide +kernel
theorem dX4_findFrom_70 : decode cX4_findFrom 70 = .ok (.getfield 55, 3) := by decide +kernel
theorem dX4_findFrom_73 : decode cX4_findFrom 73 = .ok (.if_icmp .ge 149, 3) := by decide +kernel
theorem dX4_findFrom_76 : decode cX4_findFrom 76 = .ok (.aload_n 0, 1) := by decide +kernel
theorem dX4_findFrom_77 : decode cX4_findFrom 77 = .ok (.getfield 60, 3) := by decide +kernel
theorem dX4_findFrom_80 : decode cX4_findFrom 80 = .ok (.ifCond .eq 13, 3) := by decide +kernel
theorem dX4_findFrom_83 : decode cX4_findFrom 83 = .ok (.iload 4, 2) := by decide +kernel
theorem dX4_findFrom_85 : decode cX4_findFrom 85 = .ok (.iload 7, 2) := by decide +kernel
theorem dX4_findFrom_87 : decode cX4_findFrom 87 = .ok (.ishr, 1) := by decide +kernel
theorem dX4_findFrom_88 : decode cX4_findFrom 88 = .ok (.iconst 1, 1) := by decide +kernel
theorem dX4_findFrom_89 : decode cX4_findFrom 89 = .ok (.iand, 1) := by decide +kernel
theorem dX4_findFrom_90 : decode cX4_findFrom 90 = .ok (.ifCond .ne 7, 3) := by decide +kernel
theorem dX4_findFrom_93 : decode cX4_findFrom 93 = .ok (.iconst 1, 1) := by decide +kernel
theorem dX4_findFrom_94 : decode cX4_findFrom 94 = .ok (.goto 4, 3) := by decide +kernel
theorem dX4_findFrom_97 : decode cX4_findFrom 97 = .ok (.iconst 0, 1) := by decide +kernel
theorem dX4_findFrom_98 : decode cX4_findFrom 98 = .ok (.istore 8, 2) := by decide +kernel
theorem dX4_findFrom_100 : decode cX4_findFrom 100 = .ok (.iload 8, 2) := by decide +kernel
theorem dX4_findFrom_102 : decode cX4_findFrom 102 = .ok (.ifCond .eq 114, 3) := by decide +kernel
theorem dX4_findFrom_105 : decode cX4_findFrom 105 = .ok (.iload 6, 2) := by decide +kernel
theorem dX4_findFrom_107 : decode cX4_findFrom 107 = .ok (.ifCond .eq 23, 3) := by decide +kernel
theorem dX4_findFrom_110 : decode cX4_findFrom 110 = .ok (.aload_n 0, 1) := by decide +kernel
theorem dX4_findFrom_111 : decode cX4_findFrom 111 = .ok (.getfield 63, 3) := by decide +kernel
theorem dX4_findFrom_114 : decode cX4_findFrom 114 = .ok (.iconst (-1), 1) := by decide +kernel
theorem dX4_findFrom_115 : decode cX4_findFrom 115 = .ok (.if_icmp .eq 15, 3) := by decide +kernel
theorem dX4_findFrom_118 : decode cX4_findFrom 118 = .ok (.iload 7, 2) := by decide +kernel
theorem dX4_findFrom_120 : decode cX4_findFrom 120 = .ok (.aload_n 0, 1) := by decide +kernel
theorem dX4_findFrom_121 : decode cX4_findFrom 121 = .ok (.getfield 63, 3) := by decide +kernel
theorem dX4_findFrom_124 : decode cX4_findFrom 124 = .ok (.if_icmp .eq 6, 3) := by decide +kernel
theorem dX4_findFrom_127 : decode cX4_findFrom 127 = .ok (.goto 89, 3) := by decide +kernel
theorem dX4_findFrom_130 : decode cX4_findFrom 130 = .ok (.aload_n 0, 1) := by decide +kernel
theorem dX4_findFrom_131 : decode cX4_findFrom 131 = .ok (.getfield 24, 3) := by decide +kernel
theorem dX4_findFrom_134 : decode cX4_findFrom 134 = .ok (.iload_n 3, 1) := by decide +kernel
theorem dX4_findFrom_135 : decode cX4_findFrom 135 = .ok (.iload 7, 2) := by decide +kernel
theorem dX4_findFrom_137 : decode cX4_findFrom 137 = .ok (.iastore, 1) := by decide +kernel
theorem dX4_findFrom_138 : decode cX4_findFrom 138 = .ok (.iload 6, 2) := by decide +kernel
theorem dX4_findFrom_140 : decode cX4_findFrom 140 = .ok (.ifCond .eq 21, 3) := by decide +kernel
theorem dX4_findFrom_143 : decode cX4_findFrom 143 = .ok (.aload_n 2, 1) := by decide +kernel
theorem dX4_findFrom_144 : decode cX4_findFrom 144 = .ok (.aload_n 1, 1) := by decide +kernel
theorem dX4_findFrom_145 : decode cX4_findFrom 145 = .ok (.iload 7, 2) := by decide +kernel
theorem dX4_findFrom_147 : decode cX4_findFrom 147 = .ok (.iconst 0, 1) := by decide +kernel
theorem dX4_findFrom_148 : decode cX4_findFrom 148 = .ok (.iconst 0, 1) := by decide +kernel
theorem dX4_findFrom_149 : decode cX4_findFrom 149 = .ok (.invokevirtual 88, 3) := by decide +kernel
theorem dX4_findFrom_152 : decode cX4_findFrom 152 = .ok (.aload_n 1, 1) := by decide +kernel
theorem dX4_findFrom_153 : decode cX4_findFrom 153 = .ok (.getfield 92, 3) := by decide +kernel
theorem dX4_findFrom_156 : decode cX4_findFrom 156 = .ok (.if_icmp .ne 60, 3) := by decide +kernel
theorem dX4_findFrom_159 : decode cX4_findFrom 159 = .ok (.iconst 1, 1) := by decide +kernel
theorem dX4_findFrom_160 : decode cX4_findFrom 160 = .ok (.ireturn, 1) := by decide +kernel
theorem dX4_findFrom_161 : decode cX4_findFrom 161 = .ok (.aload_n 0, 1) := by decide +kernel
theorem dX4_findFrom_162 : decode cX4_findFrom 162 = .ok (.getfield 17, 3) := by decide +kernel
theorem dX4_findFrom_165 : decode cX4_findFrom 165 = .ok (.iload_n 3, 1) := by decide +kernel
theorem dX4_findFrom_166 : decode cX4_findFrom 166 = .ok (.aaload, 1) := by decide +kernel
theorem dX4_findFrom_167 : decode cX4_findFrom 167 = .ok (.astore 9, 2) := by decide +kernel
theorem dX4_findFrom_169 : decode cX4_findFrom 169 = .ok (.aload 9, 2) := by decide +kernel
theorem dX4_findFrom_171 : decode cX4_findFrom 171 = .ok (.aload_n 2, 1) := by decide +kernel
theorem dX4_findFrom_172 : decode cX4_findFrom 172 = .ok (.invokevirtual 95, 3) := by decide +kernel
theorem dX4_findFrom_175 : decode cX4_findFrom 175 = .ok (.aload 9, 2) := by decide +kernel
theorem dX4_findFrom_177 : decode cX4_findFrom 177 = .ok (.aload_n 1, 1) := by decide +kernel
theorem dX4_findFrom_178 : decode cX4_findFrom 178 = .ok (.iload 7, 2) := by decide +kernel
theorem dX4_findFrom_180 : decode cX4_findFrom 180 = .ok (.iconst 0, 1) := by decide +kernel
theorem dX4_findFrom_181 : decode cX4_findFrom 181 = .ok (.invokevirtual 99, 3) := by decide +kernel
theorem dX4_findFrom_184 : decode cX4_findFrom 184 = .ok (.pop, 1) := by decide +kernel
theorem dX4_findFrom_185 : decode cX4_findFrom 185 = .ok (.aload 9, 2) := by decide +kernel
theorem dX4_findFrom_187 : decode cX4_findFrom 187 = .ok (.getfield 74, 3) := by decide +kernel
theorem dX4_findFrom_190 : decode cX4_findFrom 190 = .ok (.iconst (-1), 1) := by decide +kernel
theorem dX4_findFrom_191 : decode cX4_findFrom 191 = .ok (.if_icmp .ne 25, 3) := by decide +kernel
theorem dX4_findFrom_194 : decode cX4_findFrom 194 = .ok (.aload_n 0, 1) := by decide +kernel
theorem dX4_findFrom_195 : decode cX4_findFrom 195 = .ok (.aload_n 1, 1) := by decide +kernel
theorem dX4_findFrom_196 : decode cX4_findFrom 196 = .ok (.aload 9, 2) := by decide +kernel
theorem dX4_findFrom_198 : decode cX4_findFrom 198 = .ok (.iload_n 3, 1) := by decide +kernel
theorem dX4_findFrom_199 : decode cX4_findFrom 199 = .ok (.iconst 1, 1) := by decide +kernel
theorem dX4_findFrom_200 : decode cX4_findFrom 200 = .ok (.iadd, 1) := by decide +kernel
theorem dX4_findFrom_201 : decode cX4_findFrom 201 = .ok (.iload 4, 2) := by decide +kernel
theorem dX4_findFrom_203 : decode cX4_findFrom 203 = .ok (.iconst 1, 1) := by decide +kernel
theorem dX4_findFrom_204 : decode cX4_findFrom 204 = .ok (.iload 7, 2) := by decide +kernel
theorem dX4_findFrom_206 : decode cX4_findFrom 206 = .ok (.ishl, 1) := by decide +kernel
theorem dX4_findFrom_207 : decode cX4_findFrom 207 = .ok (.ior, 1) := by decide +kernel
theorem dX4_findFrom_208 : decode cX4_findFrom 208 = .ok (.invokevirtual 80, 3) := by decide +kernel
theorem dX4_findFrom_211 : decode cX4_findFrom 211 = .ok (.ifCond .eq 5, 3) := by decide +kernel
theorem dX4_findFrom_214 : decode cX4_findFrom 214 = .ok (.iconst 1, 1) := by decide +kernel
theorem dX4_findFrom_215 : decode cX4_findFrom 215 = .ok (.ireturn, 1) := by decide +kernel
theorem dX4_findFrom_216 : decode cX4_findFrom 216 = .ok (.iinc 7 1, 3) := by decide +kernel
theorem dX4_findFrom_219 : decode cX4_findFrom 219 = .ok (.goto (-152), 3) := by decide +kernel
theorem dX4_findFrom_222 : decode cX4_findFrom 222 = .ok (.iconst 0, 1) := by decide +kernel
theorem dX4_findFrom_223 : decode cX4_findFrom 223 = .ok (.ireturn, 1) := by decide +kernel
theorem dX4_isHopeless_0 : decode cX4_isHopeless 0 = .ok (.iload_n 3, 1) := by decide +kernel
theorem dX4_isHopeless_1 : decode cX4_isHopeless 1 = .ok (.aload_n 1, 1) := by decide +kernel
theorem dX4_isHopeless_2 : decode cX4_isHopeless 2 = .ok (.invokevirtual 103, 3) := by decide +kernel
theorem dX4_isHopeless_5 : decode cX4_isHopeless 5 = .ok (.imul, 1) := by decide +kernel
theorem dX4_isHopeless_6 : decode cX4_isHopeless 6 = .ok (.istore 4, 2) := by decide +kernel
theorem dX4_isHopeless_8 : decode cX4_isHopeless 8 = .ok (.iconst 0, 1) := by decide +kernel
theorem dX4_isHopeless_9 : decode cX4_isHopeless 9 = .ok (.istore 5, 2) := by decide +kernel
theorem dX4_isHopeless_11 : decode cX4_isHopeless 11 = .ok (.iload 5, 2) := by decide +kernel
theorem dX4_isHopeless_13 : decode cX4_isHopeless 13 = .ok (.aload_n 1, 1) := by decide +kernel
theorem dX4_isHopeless_14 : decode cX4_isHopeless 14 = .ok (.getfield 55, 3) := by decide +kernel
theorem dX4_isHopeless_17 : decode cX4_isHopeless 17 = .ok (.if_icmp .ge 52, 3) := by decide +kernel
theorem dX4_isHopeless_20 : decode cX4_isHopeless 20 = .ok (.aload_n 0, 1) := by decide +kernel
theorem dX4_isHopeless_21 : decode cX4_isHopeless 21 = .ok (.getfield 63, 3) := by decide +kernel
theorem dX4_isHopeless_24 : decode cX4_isHopeless 24 = .ok (.iconst (-1), 1) := by decide +kernel
theorem dX4_isHopeless_25 : decode cX4_isHopeless 25 = .ok (.if_icmp .eq 12, 3) := by decide +kernel
theorem dX4_isHopeless_28 : decode cX4_isHopeless 28 = .ok (.iload 5, 2) := by decide +kernel
theorem dX4_isHopeless_30 : decode cX4_isHopeless 30 = .ok (.aload_n 0, 1) := by decide +kernel
theorem dX4_isHopeless_31 : decode cX4_isHopeless 31 = .ok (.getfield 63, 3) := by decide +kernel
theorem dX4_isHopeless_34 : decode cX4_isHopeless 34 = .ok (.if_icmp .ne 7, 3) := by decide +kernel
theorem dX4_isHopeless_37 : decode cX4_isHopeless 37 = .ok (.iconst 1, 1) := by decide +kernel
theorem dX4_isHopeless_38 : decode cX4_isHopeless 38 = .ok (.goto 4, 3) := by decide +kernel
theorem dX4_isHopeless_41 : decode cX4_isHopeless 41 = .ok (.iconst 0, 1) := by decide +kernel
theorem dX4_isHopeless_42 : decode cX4_isHopeless 42 = .ok (.istore 6, 2) := by decide +kernel
theorem dX4_isHopeless_44 : decode cX4_isHopeless 44 = .ok (.iload 6, 2) := by decide +kernel
theorem dX4_isHopeless_46 : decode cX4_isHopeless 46 = .ok (.ifCond .eq 17, 3) := by decide +kernel
theorem dX4_isHopeless_49 : decode cX4_isHopeless 49 = .ok (.aload_n 2, 1) := by decide +kernel
theorem dX4_isHopeless_50 : decode cX4_isHopeless 50 = .ok (.aload_n 1, 1) := by decide +kernel
theorem dX4_isHopeless_51 : decode cX4_isHopeless 51 = .ok (.iload 5, 2) := by decide +kernel
theorem dX4_isHopeless_53 : decode cX4_isHopeless 53 = .ok (.iload 4, 2) := by decide +kernel
theorem dX4_isHopeless_55 : decode cX4_isHopeless 55 = .ok (.invokevirtual 107, 3) := by decide +kernel
theorem dX4_isHopeless_58 : decode cX4_isHopeless 58 = .ok (.ifCond .eq 5, 3) := by decide +kernel
theorem dX4_isHopeless_61 : decode cX4_isHopeless 61 = .ok (.iconst 0, 1) := by decide +kernel
theorem dX4_isHopeless_62 : decode cX4_isHopeless 62 = .ok (.ireturn, 1) := by decide +kernel
theorem dX4_isHopeless_63 : decode cX4_isHopeless 63 = .ok (.iinc 5 1, 3) := by decide +kernel
theorem dX4_isHopeless_66 : decode cX4_isHopeless 66 = .ok (.goto (-55), 3) := by decide +kernel
theorem dX4_isHopeless_69 : decode cX4_isHopeless 69 = .ok (.iconst 1, 1) := by decide +kernel
theorem dX4_isHopeless_70 : decode cX4_isHopeless 70 = .ok (.ireturn, 1) := by decide +kernel
theorem dX5_init_0 : decode cX5_init 0 = .ok (.aload_n 0, 1) := by decide +kernel
theorem dX5_init_1 : decode cX5_init 1 = .ok (.invokespecial 3, 3) := by decide +kernel
theorem dX5_init_4 : decode cX5_init 4 = .ok (.aload_n 0, 1) := by decide +kernel
theorem dX5_init_5 : decode cX5_init 5 = .ok (.bipush 12, 2) := by decide +kernel
theorem dX5_init_7 : decode cX5_init 7 = .ok (.newarray .int, 2) := by decide +kernel
theorem dX5_init_9 : decode cX5_init 9 = .ok (.putfield 9, 3) := by decide +kernel
theorem dX5_init_12 : decode cX5_init 12 = .ok (.aload_n 0, 1) := by decide +kernel
theorem dX5_init_13 : decode cX5_init 13 = .ok (.bipush 12, 2) := by decide +kernel
theorem dX5_init_15 : decode cX5_init 15 = .ok (.newarray .int, 2) := by decide +kernel
theorem dX5_init_17 : decode cX5_init 17 = .ok (.putfield 15, 3) := by decide +kernel
theorem dX5_init_20 : decode cX5_init 20 = .ok (.aload_n 0, 1) := by decide +kernel
theorem dX5_init_21 : decode cX5_init 21 = .ok (.new 18, 3) := by decide +kernel
theorem dX5_init_24 : decode cX5_init 24 = .ok (.dup, 1) := by decide +kernel
theorem dX5_init_25 : decode cX5_init 25 = .ok (.invokespecial 20, 3) := by decide +kernel
theorem dX5_init_28 : decode cX5_init 28 = .ok (.putfield 21, 3) := by decide +kernel
theorem dX5_init_31 : decode cX5_init 31 = .ok (.return_, 1) := by decide +kernel
theorem dX5_empty_0 : decode cX5_empty 0 = .ok (.aload_n 0, 1) := by decide +kernel
theorem dX5_empty_1 : decode cX5_empty 1 = .ok (.iconst 0, 1) := by decide +kernel
theorem dX5_empty_2 : decode cX5_empty 2 = .ok (.putfield 25, 3) := by decide +kernel
theorem dX5_empty_5 : decode cX5_empty 5 = .ok (.return_, 1) := by decide +kernel
theorem dX5_append_0 : decode cX5_append 0 = .ok (.aload_n 0, 1) := by decide +kernel
theorem dX5_append_1 : decode cX5_append 1 = .ok (.getfield 25, 3) := by decide +kernel
theorem dX5_append_4 : decode cX5_append 4 = .ok (.istore_n 3, 1) := by decide +kernel
theorem dX5_append_5 : decode cX5_append 5 = .ok (.iload_n 3, 1) := by decide +kernel
theorem dX5_append_6 : decode cX5_append 6 = .ok (.ifCond .lt 21, 3) := by decide +kernel
theorem dX5_append_9 : decode cX5_append 9 = .ok (.iload_n 3, 1) := by decide +kernel
theorem dX5_append_10 : decode cX5_append 10 = .ok (.aload_n 0, 1) := by decide +kernel
theorem dX5_append_11 : decode cX5_append 11 = .ok (.getfield 9, 3) := by decide +kernel
theorem dX5_append_14 : decode cX5_append 14 = .ok (.arraylength, 1) := by decide +kernel
theorem dX5_append_15 : decode cX5_append 15 = .ok (.if_icmp .ge 12, 3) := by decide +kernel
theorem dX5_append_18 : decode cX5_append 18 = .ok (.iload_n 3, 1) := by decide +kernel
theorem dX5_append_19 : decode cX5_append 19 = .ok (.aload_n 0, 1) := by decide +kernel
theorem dX5_append_20 : decode cX5_append 20 = .ok (.getfield 15, 3) := by decide +kernel
theorem dX5_append_23 : decode cX5_append 23 = .ok (.arraylength, 1) := by decide +kernel
theorem dX5_append_24 : decode cX5_append 24 = .ok (.if_icmp .lt 6, 3) := by decide +kernel
theorem dX5_append_27 : decode cX5_append 27 = .ok (.ldc 29, 2) := by decide +kernel
theorem dX5_append_29 : decode cX5_append 29 = .ok (.ireturn, 1) := by decide +kernel
theorem dX5_append_30 : decode cX5_append 30 = .ok (.aload_n 0, 1) := by decide +kernel
theorem dX5_append_31 : decode cX5_append 31 = .ok (.getfield 9, 3) := by decide +kernel
theorem dX5_append_34 : decode cX5_append 34 = .ok (.iload_n 3, 1) := by decide +kernel
theorem dX5_append_35 : decode cX5_append 35 = .ok (.iload_n 1, 1) := by decide +kernel
theorem dX5_append_36 : decode cX5_append 36 = .ok (.iastore, 1) := by decide +kernel
theorem dX5_append_37 : decode cX5_append 37 = .ok (.aload_n 0, 1) := by decide +kernel
theorem dX5_append_38 : decode cX5_append 38 = .ok (.getfield 15, 3) := by decide +kernel
theorem dX5_append_41 : decode cX5_append 41 = .ok (.iload_n 3, 1) := by decide +kernel
theorem dX5_append_42 : decode cX5_append 42 = .ok (.iload_n 2, 1) := by decide +kernel
theorem dX5_append_43 : decode cX5_append 43 = .ok (.iastore, 1) := by decide +kernel
theorem dX5_append_44 : decode cX5_append 44 = .ok (.aload_n 0, 1) := by decide +kernel
theorem dX5_append_45 : decode cX5_append 45 = .ok (.iload_n 3, 1) := by decide +kernel
theorem dX5_append_46 : decode cX5_append 46 = .ok (.iconst 1, 1) := by decide +kernel
theorem dX5_append_47 : decode cX5_append 47 = .ok (.iadd, 1) := by decide +kernel
theorem dX5_append_48 : decode cX5_append 48 = .ok (.putfield 25, 3) := by decide +kernel
theorem dX5_append_51 : decode cX5_append 51 = .ok (.aload_n 0, 1) := by decide +kernel
theorem dX5_append_52 : decode cX5_append 52 = .ok (.getfield 25, 3) := by decide +kernel
theorem dX5_append_55 : decode cX5_append 55 = .ok (.ireturn, 1) := by decide +kernel
theorem dX5_climberOf_0 : decode cX5_climberOf 0 = .ok (.iload_n 1, 1) := by decide +kernel
theorem dX5_climberOf_1 : decode cX5_climberOf 1 = .ok (.ifCond .lt 21, 3) := by decide +kernel
theorem dX5_climberOf_4 : decode cX5_climberOf 4 = .ok (.iload_n 1, 1) := by decide +kernel
theorem dX5_climberOf_5 : decode cX5_climberOf 5 = .ok (.aload_n 0, 1) := by decide +kernel
theorem dX5_climberOf_6 : decode cX5_climberOf 6 = .ok (.getfield 9, 3) := by decide +kernel
theorem dX5_climberOf_9 : decode cX5_climberOf 9 = .ok (.arraylength, 1) := by decide +kernel
theorem dX5_climberOf_10 : decode cX5_climberOf 10 = .ok (.if_icmp .ge 12, 3) := by decide +kernel
theorem dX5_climberOf_13 : decode cX5_climberOf 13 = .ok (.aload_n 0, 1) := by decide +kernel
theorem dX5_climberOf_14 : decode cX5_climberOf 14 = .ok (.getfield 9, 3) := by decide +kernel
theorem dX5_climberOf_17 : decode cX5_climberOf 17 = .ok (.iload_n 1, 1) := by decide +kernel
theorem dX5_climberOf_18 : decode cX5_climberOf 18 = .ok (.iaload, 1) := by decide +kernel
theorem dX5_climberOf_19 : decode cX5_climberOf 19 = .ok (.goto 4, 3) := by decide +kernel
theorem dX5_climberOf_22 : decode cX5_climberOf 22 = .ok (.iconst 0, 1) := by decide +kernel
theorem dX5_climberOf_23 : decode cX5_climberOf 23 = .ok (.ireturn, 1) := by decide +kernel
theorem dX5_firstOtherwise_0 : decode cX5_firstOtherwise 0 = .ok (.aload_n 0, 1) := by decide +kernel
theorem dX5_firstOtherwise_1 : decode cX5_firstOtherwise 1 = .ok (.getfield 21, 3) := by decide +kernel
theorem dX5_firstOtherwise_4 : decode cX5_firstOtherwise 4 = .ok (.aload_n 2, 1) := by decide +kernel
theorem dX5_firstOtherwise_5 : decode cX5_firstOtherwise 5 = .ok (.invokevirtual 30, 3) := by decide +kernel
theorem dX5_firstOtherwise_8 : decode cX5_firstOtherwise 8 = .ok (.iconst 0, 1) := by decide +kernel
theorem dX5_firstOtherwise_9 : decode cX5_firstOtherwise 9 = .ok (.istore 4, 2) := by decide +kernel
theorem dX5_firstOtherwise_11 : decode cX5_firstOtherwise 11 = .ok (.iload 4, 2) := by decide +kernel
theorem dX5_firstOtherwise_13 : decode cX5_firstOtherwise 13 = .ok (.aload_n 0, 1) := by decide +kernel
theorem dX5_firstOtherwise_14 : decode cX5_firstOtherwise 14 = .ok (.getfield 25, 3) := by decide +kernel
theorem dX5_firstOtherwise_17 : decode cX5_firstOtherwise 17 = .ok (.if_icmp .ge 61, 3) := by decide +kernel
theorem dX5_firstOtherwise_20 : decode cX5_firstOtherwise 20 = .ok (.iload 4, 2) := by decide +kernel
theorem dX5_firstOtherwise_22 : decode cX5_firstOtherwise 22 = .ok (.aload_n 0, 1) := by decide +kernel
theorem dX5_firstOtherwise_23 : decode cX5_firstOtherwise 23 = .ok (.getfield 15, 3) := by decide +kernel
theorem dX5_firstOtherwise_26 : decode cX5_firstOtherwise 26 = .ok (.arraylength, 1) := by decide +kernel
theorem dX5_firstOtherwise_27 : decode cX5_firstOtherwise 27 = .ok (.if_icmp .ge 51, 3) := by decide +kernel
theorem dX5_firstOtherwise_30 : decode cX5_firstOtherwise 30 = .ok (.aload_n 0, 1) := by decide +kernel
theorem dX5_firstOtherwise_31 : decode cX5_firstOtherwise 31 = .ok (.iload 4, 2) := by decide +kernel
theorem dX5_firstOtherwise_33 : decode cX5_firstOtherwise 33 = .ok (.invokevirtual 34, 3) := by decide +kernel
theorem dX5_firstOtherwise_36 : decode cX5_firstOtherwise 36 = .ok (.istore 5, 2) := by decide +kernel
theorem dX5_firstOtherwise_38 : decode cX5_firstOtherwise 38 = .ok (.aload_n 0, 1) := by decide +kernel
theorem dX5_firstOtherwise_39 : decode cX5_firstOtherwise 39 = .ok (.getfield 21, 3) := by decide +kernel
theorem dX5_firstOtherwise_42 : decode cX5_firstOtherwise 42 = .ok (.aload_n 1, 1) := by decide +kernel
theorem dX5_firstOtherwise_43 : decode cX5_firstOtherwise 43 = .ok (.iload 5, 2) := by decide +kernel
theorem dX5_firstOtherwise_45 : decode cX5_firstOtherwise 45 = .ok (.iload 5, 2) := by decide +kernel
theorem dX5_firstOtherwise_47 : decode cX5_firstOtherwise 47 = .ok (.iload_n 3, 1) := by decide +kernel
theorem dX5_firstOtherwise_48 : decode cX5_firstOtherwise 48 = .ok (.if_icmp .ne 7, 3) := by decide +kernel
theorem dX5_firstOtherwise_51 : decode cX5_firstOtherwise 51 = .ok (.iconst 1, 1) := by decide +kernel
theorem dX5_firstOtherwise_52 : decode cX5_firstOtherwise 52 = .ok (.goto 4, 3) := by decide +kernel
theorem dX5_firstOtherwise_55 : decode cX5_firstOtherwise 55 = .ok (.iconst 0, 1) := by decide +kernel
theorem dX5_firstOtherwise_56 : decode cX5_firstOtherwise 56 = .ok (.invokevirtual 38, 3) := by decide +kernel
theorem dX5_firstOtherwise_59 : decode cX5_firstOtherwise 59 = .ok (.aload_n 0, 1) := by decide +kernel
theorem dX5_firstOtherwise_60 : decode cX5_firstOtherwise 60 = .ok (.getfield 15, 3) := by decide +kernel
theorem dX5_firstOtherwise_63 : decode cX5_firstOtherwise 63 = .ok (.iload 4, 2) := by decide +kernel
theorem dX5_firstOtherwise_65 : decode cX5_firstOtherwise 65 = .ok (.iaload, 1) := by decide +kernel
theorem dX5_firstOtherwise_66 : decode cX5_firstOtherwise 66 = .ok (.if_icmp .eq 6, 3) := by decide +kernel
theorem dX5_firstOtherwise_69 : decode cX5_firstOtherwise 69 = .ok (.iload 4, 2) := by decide +kernel
theorem dX5_firstOtherwise_71 : decode cX5_firstOtherwise 71 = .ok (.ireturn, 1) := by decide +kernel
theorem dX5_firstOtherwise_72 : decode cX5_firstOtherwise 72 = .ok (.iinc 4 1, 3) := by decide +kernel
theorem dX5_firstOtherwise_75 : decode cX5_firstOtherwise 75 = .ok (.goto (-64), 3) := by decide +kernel
theorem dX5_firstOtherwise_78 : decode cX5_firstOtherwise 78 = .ok (.iconst (-1), 1) := by decide +kernel
theorem dX5_firstOtherwise_79 : decode cX5_firstOtherwise 79 = .ok (.ireturn, 1) := by decide +kernel
theorem dX5_leastSlipFor_0 : decode cX5_leastSlipFor 0 = .ok (.iload_n 3, 1) := by decide +kernel
theorem dX5_leastSlipFor_1 : decode cX5_leastSlipFor 1 = .ok (.aload_n 0, 1) := by decide +kernel
theorem dX5_leastSlipFor_2 : decode cX5_leastSlipFor 2 = .ok (.getfield 25, 3) := by decide +kernel
theorem dX5_leastSlipFor_5 : decode cX5_leastSlipFor 5 = .ok (.if_icmp .ge 11, 3) := by decide +kernel
theorem dX5_leastSlipFor_8 : decode cX5_leastSlipFor 8 = .ok (.aload_n 2, 1) := by decide +kernel
theorem dX5_leastSlipFor_9 : decode cX5_leastSlipFor 9 = .ok (.getfield 42, 3) := by decide +kernel
theorem dX5_leastSlipFor_12 : decode cX5_leastSlipFor 12 = .ok (.iconst (-1), 1) := by decide +kernel
theorem dX5_leastSlipFor_13 : decode cX5_leastSlipFor 13 = .ok (.if_icmp .eq 5, 3) := by decide +kernel
theorem dX5_leastSlipFor_16 : decode cX5_leastSlipFor 16 = .ok (.iconst (-1), 1) := by decide +kernel
theorem dX5_leastSlipFor_17 : decode cX5_leastSlipFor 17 = .ok (.ireturn, 1) := by decide +kernel
theorem dX5_leastSlipFor_18 : decode cX5_leastSlipFor 18 = .ok (.iconst 0, 1) := by decide +kernel
theorem dX5_leastSlipFor_19 : decode cX5_leastSlipFor 19 = .ok (.istore 4, 2) := by decide +kernel
theorem dX5_leastSlipFor_21 : decode cX5_leastSlipFor 21 = .ok (.iload 4, 2) := by decide +kernel
theorem dX5_leastSlipFor_23 : decode cX5_leastSlipFor 23 = .ok (.bipush 99, 2) := by decide +kernel
theorem dX5_leastSlipFor_25 : decode cX5_leastSlipFor 25 = .ok (.if_icmp .gt 39, 3) := by decide +kernel
theorem dX5_leastSlipFor_28 : decode cX5_leastSlipFor 28 = .ok (.aload_n 0, 1) := by decide +kernel
theorem dX5_leastSlipFor_29 : decode cX5_leastSlipFor 29 = .ok (.getfield 21, 3) := by decide +kernel
theorem dX5_leastSlipFor_32 : decode cX5_leastSlipFor 32 = .ok (.aload_n 2, 1) := by decide +kernel
theorem dX5_leastSlipFor_33 : decode cX5_leastSlipFor 33 = .ok (.invokevirtual 30, 3) := by decide +kernel
theorem dX5_leastSlipFor_36 : decode cX5_leastSlipFor 36 = .ok (.aload_n 0, 1) := by decide +kernel
theorem dX5_leastSlipFor_37 : decode cX5_leastSlipFor 37 = .ok (.getfield 21, 3) := by decide +kernel
theorem dX5_leastSlipFor_40 : decode cX5_leastSlipFor 40 = .ok (.iload 4, 2) := by decide +kernel
theorem dX5_leastSlipFor_42 : decode cX5_leastSlipFor 42 = .ok (.invokevirtual 45, 3) := by decide +kernel
theorem dX5_leastSlipFor_45 : decode cX5_leastSlipFor 45 = .ok (.aload_n 0, 1) := by decide +kernel
theorem dX5_leastSlipFor_46 : decode cX5_leastSlipFor 46 = .ok (.aload_n 1, 1) := by decide +kernel
theorem dX5_leastSlipFor_47 : decode cX5_leastSlipFor 47 = .ok (.iload_n 3, 1) := by decide +kernel
theorem dX5_leastSlipFor_48 : decode cX5_leastSlipFor 48 = .ok (.invokevirtual 49, 3) := by decide +kernel
theorem dX5_leastSlipFor_51 : decode cX5_leastSlipFor 51 = .ok (.iload_n 3, 1) := by decide +kernel
theorem dX5_leastSlipFor_52 : decode cX5_leastSlipFor 52 = .ok (.if_icmp .ne 6, 3) := by decide +kernel
theorem dX5_leastSlipFor_55 : decode cX5_leastSlipFor 55 = .ok (.iload 4, 2) := by decide +kernel
theorem dX5_leastSlipFor_57 : decode cX5_leastSlipFor 57 = .ok (.ireturn, 1) := by decide +kernel
theorem dX5_leastSlipFor_58 : decode cX5_leastSlipFor 58 = .ok (.iinc 4 1, 3) := by decide +kernel
theorem dX5_leastSlipFor_61 : decode cX5_leastSlipFor 61 = .ok (.goto (-40), 3) := by decide +kernel
theorem dX5_leastSlipFor_64 : decode cX5_leastSlipFor 64 = .ok (.iconst (-1), 1) := by decide +kernel
theorem dX5_leastSlipFor_65 : decode cX5_leastSlipFor 65 = .ok (.ireturn, 1) := by decide +kernel
theorem dX5_goThatHasIt_0 : decode cX5_goThatHasIt 0 = .ok (.iconst 0, 1) := by decide +kernel
theorem dX5_goThatHasIt_1 : decode cX5_goThatHasIt 1 = .ok (.istore_n 3, 1) := by decide +kernel
theorem dX5_goThatHasIt_2 : decode cX5_goThatHasIt 2 = .ok (.iload_n 3, 1) := by decide +kernel
theorem dX5_goThatHasIt_3 : decode cX5_goThatHasIt 3 = .ok (.iload_n 2, 1) := by decide +kernel
theorem dX5_goThatHasIt_4 : decode cX5_goThatHasIt 4 = .ok (.if_icmp .gt 45, 3) := by decide +kernel
theorem dX5_goThatHasIt_7 : decode cX5_goThatHasIt 7 = .ok (.iload_n 3, 1) := by decide +kernel
theorem dX5_goThatHasIt_8 : decode cX5_goThatHasIt 8 = .ok (.aload_n 0, 1) := by decide +kernel
theorem dX5_goThatHasIt_9 : decode cX5_goThatHasIt 9 = .ok (.getfield 25, 3) := by decide +kernel
theorem dX5_goThatHasIt_12 : decode cX5_goThatHasIt 12 = .ok (.if_icmp .ge 37, 3) := by decide +kernel
theorem dX5_goThatHasIt_15 : decode cX5_goThatHasIt 15 = .ok (.aload_n 0, 1) := by decide +kernel
theorem dX5_goThatHasIt_16 : decode cX5_goThatHasIt 16 = .ok (.getfield 21, 3) := by decide +kernel
theorem dX5_goThatHasIt_19 : decode cX5_goThatHasIt 19 = .ok (.aload_n 1, 1) := by decide +kernel
theorem dX5_goThatHasIt_20 : decode cX5_goThatHasIt 20 = .ok (.aload_n 0, 1) := by decide +kernel
theorem dX5_goThatHasIt_21 : decode cX5_goThatHasIt 21 = .ok (.iload_n 3, 1) := by decide +kernel
theorem dX5_goThatHasIt_22 : decode cX5_goThatHasIt 22 = .ok (.invokevirtual 34, 3) := by decide +kernel
theorem dX5_goThatHasIt_25 : decode cX5_goThatHasIt 25 = .ok (.iconst 0, 1) := by decide +kernel
theorem dX5_goThatHasIt_26 : decode cX5_goThatHasIt 26 = .ok (.invokevirtual 38, 3) := by decide +kernel
theorem dX5_goThatHasIt_29 : decode cX5_goThatHasIt 29 = .ok (.pop, 1) := by decide +kernel
theorem dX5_goThatHasIt_30 : decode cX5_goThatHasIt 30 = .ok (.aload_n 0, 1) := by decide +kernel
theorem dX5_goThatHasIt_31 : decode cX5_goThatHasIt 31 = .ok (.getfield 21, 3) := by decide +kernel
theorem dX5_goThatHasIt_34 : decode cX5_goThatHasIt 34 = .ok (.getfield 42, 3) := by decide +kernel
theorem dX5_goThatHasIt_37 : decode cX5_goThatHasIt 37 = .ok (.iconst (-1), 1) := by decide +kernel
theorem dX5_goThatHasIt_38 : decode cX5_goThatHasIt 38 = .ok (.if_icmp .eq 5, 3) := by decide +kernel
theorem dX5_goThatHasIt_41 : decode cX5_goThatHasIt 41 = .ok (.iload_n 3, 1) := by decide +kernel
theorem dX5_goThatHasIt_42 : decode cX5_goThatHasIt 42 = .ok (.ireturn, 1) := by decide +kernel
theorem dX5_goThatHasIt_43 : decode cX5_goThatHasIt 43 = .ok (.iinc 3 1, 3) := by decide +kernel
theorem dX5_goThatHasIt_46 : decode cX5_goThatHasIt 46 = .ok (.goto (-44), 3) := by decide +kernel
theorem dX5_goThatHasIt_49 : decode cX5_goThatHasIt 49 = .ok (.iconst (-1), 1) := by decide +kernel
theorem dX5_goThatHasIt_50 : decode cX5_goThatHasIt 50 = .ok (.ireturn, 1) := by decide +kernel
theorem dX6_init_0 : decode cX6_init 0 = .ok (.aload_n 0, 1) := by decide +kernel
theorem dX6_init_1 : decode cX6_init 1 = .ok (.invokespecial 1, 3) := by decide +kernel
theorem dX6_init_4 : decode cX6_init 4 = .ok (.aload_n 0, 1) := by decide +kernel
theorem dX6_init_5 : decode cX6_init 5 = .ok (.new 7, 3) := by decide +kernel
theorem dX6_init_8 : decode cX6_init 8 = .ok (.dup, 1) := by decide +kernel
theorem dX6_init_9 : decode cX6_init 9 = .ok (.invokespecial 9, 3) := by decide +kernel
theorem dX6_init_12 : decode cX6_init 12 = .ok (.putfield 10, 3) := by decide +kernel
theorem dX6_init_15 : decode cX6_init 15 = .ok (.aload_n 0, 1) := by decide +kernel
theorem dX6_init_16 : decode cX6_init 16 = .ok (.new 16, 3) := by decide +kernel
theorem dX6_init_19 : decode cX6_init 19 = .ok (.dup, 1) := by decide +kernel
theorem dX6_init_20 : decode cX6_init 20 = .ok (.invokespecial 18, 3) := by decide +kernel
theorem dX6_init_23 : decode cX6_init 23 = .ok (.putfield 19, 3) := by decide +kernel
theorem dX6_init_26 : decode cX6_init 26 = .ok (.aload_n 0, 1) := by decide +kernel
theorem dX6_init_27 : decode cX6_init 27 = .ok (.new 16, 3) := by decide +kernel
theorem dX6_init_30 : decode cX6_init 30 = .ok (.dup, 1) := by decide +kernel
theorem dX6_init_31 : decode cX6_init 31 = .ok (.invokespecial 18, 3) := by decide +kernel
theorem dX6_init_34 : decode cX6_init 34 = .ok (.putfield 23, 3) := by decide +kernel
theorem dX6_init_37 : decode cX6_init 37 = .ok (.aload_n 0, 1) := by decide +kernel
theorem dX6_init_38 : decode cX6_init 38 = .ok (.new 26, 3) := by decide +kernel
theorem dX6_init_41 : decode cX6_init 41 = .ok (.dup, 1) := by decide +kernel
theorem dX6_init_42 : decode cX6_init 42 = .ok (.invokespecial 28, 3) := by decide +kernel
theorem dX6_init_45 : decode cX6_init 45 = .ok (.putfield 29, 3) := by decide +kernel
theorem dX6_init_48 : decode cX6_init 48 = .ok (.aload_n 0, 1) := by decide +kernel
theorem dX6_init_49 : decode cX6_init 49 = .ok (.iconst 2, 1) := by decide +kernel
theorem dX6_init_50 : decode cX6_init 50 = .ok (.anewarray 26, 3) := by decide +kernel
theorem dX6_init_53 : decode cX6_init 53 = .ok (.putfield 33, 3) := by decide +kernel
theorem dX6_init_56 : decode cX6_init 56 = .ok (.iconst 0, 1) := by decide +kernel
theorem dX6_init_57 : decode cX6_init 57 = .ok (.istore_n 1, 1) := by decide +kernel
theorem dX6_init_58 : decode cX6_init 58 = .ok (.iload_n 1, 1) := by decide +kernel
theorem dX6_init_59 : decode cX6_init 59 = .ok (.aload_n 0, 1) := by decide +kernel
theorem dX6_init_60 : decode cX6_init 60 = .ok (.getfield 33, 3) := by decide +kernel
theorem dX6_init_63 : decode cX6_init 63 = .ok (.arraylength, 1) := by decide +kernel
theorem dX6_init_64 : decode cX6_init 64 = .ok (.if_icmp .ge 22, 3) := by decide +kernel
theorem dX6_init_67 : decode cX6_init 67 = .ok (.aload_n 0, 1) := by decide +kernel
theorem dX6_init_68 : decode cX6_init 68 = .ok (.getfield 33, 3) := by decide +kernel
theorem dX6_init_71 : decode cX6_init 71 = .ok (.iload_n 1, 1) := by decide +kernel
theorem dX6_init_72 : decode cX6_init 72 = .ok (.new 26, 3) := by decide +kernel
theorem dX6_init_75 : decode cX6_init 75 = .ok (.dup, 1) := by decide +kernel
theorem dX6_init_76 : decode cX6_init 76 = .ok (.invokespecial 28, 3) := by decide +kernel
theorem dX6_init_79 : decode cX6_init 79 = .ok (.aastore, 1) := by decide +kernel
theorem dX6_init_80 : decode cX6_init 80 = .ok (.iinc 1 1, 3) := by decide +kernel
theorem dX6_init_83 : decode cX6_init 83 = .ok (.goto (-25), 3) := by decide +kernel
theorem dX6_init_86 : decode cX6_init 86 = .ok (.aload_n 0, 1) := by decide +kernel
theorem dX6_init_87 : decode cX6_init 87 = .ok (.iconst 2, 1) := by decide +kernel
theorem dX6_init_88 : decode cX6_init 88 = .ok (.newarray .boolean, 2) := by decide +kernel
theorem dX6_init_90 : decode cX6_init 90 = .ok (.putfield 37, 3) := by decide +kernel
theorem dX6_init_93 : decode cX6_init 93 = .ok (.aload_n 0, 1) := by decide +kernel
theorem dX6_init_94 : decode cX6_init 94 = .ok (.new 41, 3) := by decide +kernel
theorem dX6_init_97 : decode cX6_init 97 = .ok (.dup, 1) := by decide +kernel
theorem dX6_init_98 : decode cX6_init 98 = .ok (.invokespecial 43, 3) := by decide +kernel
theorem dX6_init_101 : decode cX6_init 101 = .ok (.putfield 44, 3) := by decide +kernel
theorem dX6_init_104 : decode cX6_init 104 = .ok (.aload_n 0, 1) := by decide +kernel
theorem dX6_init_105 : decode cX6_init 105 = .ok (.new 48, 3) := by decide +kernel
theorem dX6_init_108 : decode cX6_init 108 = .ok (.dup, 1) := by decide +kernel
theorem dX6_init_109 : decode cX6_init 109 = .ok (.invokespecial 50, 3) := by decide +kernel
theorem dX6_init_112 : decode cX6_init 112 = .ok (.putfield 51, 3) := by decide +kernel
theorem dX6_init_115 : decode cX6_init 115 = .ok (.aload_n 0, 1) := by decide +kernel
theorem dX6_init_116 : decode cX6_init 116 = .ok (.new 55, 3) := by decide +kernel
theorem dX6_init_119 : decode cX6_init 119 = .ok (.dup, 1) := by decide +kernel
theorem dX6_init_120 : decode cX6_init 120 = .ok (.invokespecial 57, 3) := by decide +kernel
theorem dX6_init_123 : decode cX6_init 123 = .ok (.putfield 58, 3) := by decide +kernel
theorem dX6_init_126 : decode cX6_init 126 = .ok (.aload_n 0, 1) := by decide +kernel
theorem dX6_init_127 : decode cX6_init 127 = .ok (.new 26, 3) := by decide +kernel
theorem dX6_init_130 : decode cX6_init 130 = .ok (.dup, 1) := by decide +kernel
theorem dX6_init_131 : decode cX6_init 131 = .ok (.invokespecial 28, 3) := by decide +kernel
theorem dX6_init_134 : decode cX6_init 134 = .ok (.putfield 62, 3) := by decide +kernel
theorem dX6_init_137 : decode cX6_init 137 = .ok (.aload_n 0, 1) := by decide +kernel
theorem dX6_init_138 : decode cX6_init 138 = .ok (.iconst 0, 1) := by decide +kernel
theorem dX6_init_139 : decode cX6_init 139 = .ok (.putfield 65, 3) := by decide +kernel
theorem dX6_init_142 : decode cX6_init 142 = .ok (.aload_n 0, 1) := by decide +kernel
theorem dX6_init_143 : decode cX6_init 143 = .ok (.iconst (-1), 1) := by decide +kernel
theorem dX6_init_144 : decode cX6_init 144 = .ok (.putfield 69, 3) := by decide +kernel
theorem dX6_init_147 : decode cX6_init 147 = .ok (.return_, 1) := by decide +kernel
theorem dX6_feed_0 : decode cX6_feed 0 = .ok (.iload_n 1, 1) := by decide +kernel
theorem dX6_feed_1 : decode cX6_feed 1 = .ok (.iconst 1, 1) := by decide +kernel
theorem dX6_feed_2 : decode cX6_feed 2 = .ok (.if_icmp .lt 9, 3) := by decide +kernel
theorem dX6_feed_5 : decode cX6_feed 5 = .ok (.iload_n 1, 1) := by decide +kernel
theorem dX6_feed_6 : decode cX6_feed 6 = .ok (.bipush 8, 2) := by decide +kernel
theorem dX6_feed_8 : decode cX6_feed 8 = .ok (.if_icmp .le 6, 3) := by decide +kernel
theorem dX6_feed_11 : decode cX6_feed 11 = .ok (.ldc 73, 2) := by decide +kernel
theorem dX6_feed_13 : decode cX6_feed 13 = .ok (.ireturn, 1) := by decide +kernel
theorem dX6_feed_14 : decode cX6_feed 14 = .ok (.iload_n 1, 1) := by decide +kernel
theorem dX6_feed_15 : decode cX6_feed 15 = .ok (.aload_n 0, 1) := by decide +kernel
theorem dX6_feed_16 : decode cX6_feed 16 = .ok (.getfield 10, 3) := by decide +kernel
theorem dX6_feed_19 : decode cX6_feed 19 = .ok (.invokevirtual 74, 3) := by decide +kernel
theorem dX6_feed_22 : decode cX6_feed 22 = .ok (.if_icmp .le 6, 3) := by decide +kernel
theorem dX6_feed_25 : decode cX6_feed 25 = .ok (.ldc 78, 2) := by decide +kernel
theorem dX6_feed_27 : decode cX6_feed 27 = .ok (.ireturn, 1) := by decide +kernel
theorem dX6_feed_28 : decode cX6_feed 28 = .ok (.aload_n 0, 1) := by decide +kernel
theorem dX6_feed_29 : decode cX6_feed 29 = .ok (.getfield 10, 3) := by decide +kernel
theorem dX6_feed_32 : decode cX6_feed 32 = .ok (.iload_n 1, 1) := by decide +kernel
theorem dX6_feed_33 : decode cX6_feed 33 = .ok (.lload_n 2, 1) := by decide +kernel
theorem dX6_feed_34 : decode cX6_feed 34 = .ok (.invokevirtual 79, 3) := by decide +kernel
theorem dX6_feed_37 : decode cX6_feed 37 = .ok (.ireturn, 1) := by decide +kernel
theorem dX6_pole_0 : decode cX6_pole 0 = .ok (.aload_n 0, 1) := by decide +kernel
theorem dX6_pole_1 : decode cX6_pole 1 = .ok (.getfield 10, 3) := by decide +kernel
theorem dX6_pole_4 : decode cX6_pole 4 = .ok (.aload_n 0, 1) := by decide +kernel
theorem dX6_pole_5 : decode cX6_pole 5 = .ok (.getfield 23, 3) := by decide +kernel
theorem dX6_pole_8 : decode cX6_pole 8 = .ok (.invokevirtual 83, 3) := by decide +kernel
theorem dX6_pole_11 : decode cX6_pole 11 = .ok (.istore_n 1, 1) := by decide +kernel
theorem dX6_pole_12 : decode cX6_pole 12 = .ok (.aload_n 0, 1) := by decide +kernel
theorem dX6_pole_13 : decode cX6_pole 13 = .ok (.aload_n 0, 1) := by decide +kernel
theorem dX6_pole_14 : decode cX6_pole 14 = .ok (.getfield 10, 3) := by decide +kernel
theorem dX6_pole_17 : decode cX6_pole 17 = .ok (.getfield 87, 3) := by decide +kernel
theorem dX6_pole_20 : decode cX6_pole 20 = .ok (.putfield 69, 3) := by decide +kernel
theorem dX6_pole_23 : decode cX6_pole 23 = .ok (.aload_n 0, 1) := by decide +kernel
theorem dX6_pole_24 : decode cX6_pole 24 = .ok (.getfield 10, 3) := by decide +kernel
theorem dX6_pole_27 : decode cX6_pole 27 = .ok (.invokevirtual 90, 3) := by decide +kernel
theorem dX6_pole_30 : decode cX6_pole 30 = .ok (.iload_n 1, 1) := by decide +kernel
theorem dX6_pole_31 : decode cX6_pole 31 = .ok (.ifCond .eq 8, 3) := by decide +kernel
theorem dX6_pole_34 : decode cX6_pole 34 = .ok (.bipush (-10), 2) := by decide +kernel
theorem dX6_pole_36 : decode cX6_pole 36 = .ok (.iload_n 1, 1) := by decide +kernel
theorem dX6_pole_37 : decode cX6_pole 37 = .ok (.isub, 1) := by decide +kernel
theorem dX6_pole_38 : decode cX6_pole 38 = .ok (.ireturn, 1) := by decide +kernel
theorem dX6_pole_39 : decode cX6_pole 39 = .ok (.aload_n 0, 1) := by decide +kernel
theorem dX6_pole_40 : decode cX6_pole 40 = .ok (.getfield 19, 3) := by decide +kernel
theorem dX6_pole_43 : decode cX6_pole 43 = .ok (.aload_n 0, 1) := by decide +kernel
theorem dX6_pole_44 : decode cX6_pole 44 = .ok (.getfield 23, 3) := by decide +kernel
theorem dX6_pole_47 : decode cX6_pole 47 = .ok (.invokevirtual 93, 3) := by decide +kernel
theorem dX6_pole_50 : decode cX6_pole 50 = .ok (.aload_n 0, 1) := by decide +kernel
theorem dX6_pole_51 : decode cX6_pole 51 = .ok (.getfield 29, 3) := by decide +kernel
theorem dX6_pole_54 : decode cX6_pole 54 = .ok (.aload_n 0, 1) := by decide +kernel
theorem dX6_pole_55 : decode cX6_pole 55 = .ok (.getfield 19, 3) := by decide +kernel
theorem dX6_pole_58 : decode cX6_pole 58 = .ok (.invokevirtual 97, 3) := by decide +kernel
theorem dX6_pole_61 : decode cX6_pole 61 = .ok (.aload_n 0, 1) := by decide +kernel
theorem dX6_pole_62 : decode cX6_pole 62 = .ok (.getfield 44, 3) := by decide +kernel
theorem dX6_pole_65 : decode cX6_pole 65 = .ok (.invokevirtual 100, 3) := by decide +kernel
theorem dX6_pole_68 : decode cX6_pole 68 = .ok (.iconst 0, 1) := by decide +kernel
theorem dX6_pole_69 : decode cX6_pole 69 = .ok (.istore_n 2, 1) := by decide +kernel
theorem dX6_pole_70 : decode cX6_pole 70 = .ok (.iload_n 2, 1) := by decide +kernel
theorem dX6_pole_71 : decode cX6_pole 71 = .ok (.aload_n 0, 1) := by decide +kernel
theorem dX6_pole_72 : decode cX6_pole 72 = .ok (.getfield 37, 3) := by decide +kernel
theorem dX6_pole_75 : decode cX6_pole 75 = .ok (.arraylength, 1) := by decide +kernel
theorem dX6_pole_76 : decode cX6_pole 76 = .ok (.if_icmp .ge 16, 3) := by decide +kernel
theorem dX6_pole_79 : decode cX6_pole 79 = .ok (.aload_n 0, 1) := by decide +kernel
theorem dX6_pole_80 : decode cX6_pole 80 = .ok (.getfield 37, 3) := by decide +kernel
theorem dX6_pole_83 : decode cX6_pole 83 = .ok (.iload_n 2, 1) := by decide +kernel
theorem dX6_pole_84 : decode cX6_pole 84 = .ok (.iconst 0, 1) := by decide +kernel
theorem dX6_pole_85 : decode cX6_pole 85 = .ok (.bastore, 1) := by decide +kernel
theorem dX6_pole_86 : decode cX6_pole 86 = .ok (.iinc 2 1, 3) := by decide +kernel
theorem dX6_pole_89 : decode cX6_pole 89 = .ok (.goto (-19), 3) := by decide +kernel
theorem dX6_pole_92 : decode cX6_pole 92 = .ok (.aload_n 0, 1) := by decide +kernel
theorem dX6_pole_93 : decode cX6_pole 93 = .ok (.iconst 0, 1) := by decide +kernel
theorem dX6_pole_94 : decode cX6_pole 94 = .ok (.putfield 65, 3) := by decide +kernel
theorem dX6_pole_97 : decode cX6_pole 97 = .ok (.aload_n 0, 1) := by decide +kernel
theorem dX6_pole_98 : decode cX6_pole 98 = .ok (.getfield 19, 3) := by decide +kernel
theorem dX6_pole_101 : decode cX6_pole 101 = .ok (.getfield 101, 3) := by decide +kernel
theorem dX6_pole_104 : decode cX6_pole 104 = .ok (.ireturn, 1) := by decide +kernel
theorem dX6_fault_0 : decode cX6_fault 0 = .ok (.aload_n 0, 1) := by decide +kernel
theorem dX6_fault_1 : decode cX6_fault 1 = .ok (.getfield 69, 3) := by decide +kernel
theorem dX6_fault_4 : decode cX6_fault 4 = .ok (.ireturn, 1) := by decide +kernel
theorem dX6_told_0 : decode cX6_told 0 = .ok (.iload_n 1, 1) := by decide +kernel
theorem dX6_told_1 : decode cX6_told 1 = .ok (.tableswitch 157 0 10 #[59, 67, 75, 83, 91, 99, 107, 115, 123, 131, 139], 59) := by decide +kernel
theorem dX6_told_60 : decode cX6_told 60 = .ok (.aload_n 0, 1) := by decide +kernel
theorem dX6_told_61 : decode cX6_told 61 = .ok (.getfield 19, 3) := by decide +kernel
theorem dX6_told_64 : decode cX6_told 64 = .ok (.getfield 101, 3) := by decide +kernel
theorem dX6_told_67 : decode cX6_told 67 = .ok (.ireturn, 1) := by decide +kernel
theorem dX6_told_68 : decode cX6_told 68 = .ok (.aload_n 0, 1) := by decide +kernel
theorem dX6_told_69 : decode cX6_told 69 = .ok (.getfield 19, 3) := by decide +kernel
theorem dX6_told_72 : decode cX6_told 72 = .ok (.getfield 104, 3) := by decide +kernel
theorem dX6_told_75 : decode cX6_told 75 = .ok (.ireturn, 1) := by decide +kernel
theorem dX6_told_76 : decode cX6_told 76 = .ok (.aload_n 0, 1) := by decide +kernel
theorem dX6_told_77 : decode cX6_told 77 = .ok (.getfield 19, 3) := by decide +kernel
theorem dX6_told_80 : decode cX6_told 80 = .ok (.getfield 107, 3) := by decide +kernel
theorem dX6_told_83 : decode cX6_told 83 = .ok (.ireturn, 1) := by decide +kernel
theorem dX6_told_84 : decode cX6_told 84 = .ok (.aload_n 0, 1) := by decide +kernel
theorem dX6_told_85 : decode cX6_told 85 = .ok (.getfield 19, 3) := by decide +kernel
theorem dX6_told_88 : decode cX6_told 88 = .ok (.getfield 110, 3) := by decide +kernel
theorem dX6_told_91 : decode cX6_told 91 = .ok (.ireturn, 1) := by decide +kernel
theorem dX6_told_92 : decode cX6_told 92 = .ok (.aload_n 0, 1) := by decide +kernel
theorem dX6_told_93 : decode cX6_told 93 = .ok (.getfield 19, 3) := by decide +kernel
theorem dX6_told_96 : decode cX6_told 96 = .ok (.getfield 113, 3) := by decide +kernel
theorem dX6_told_99 : decode cX6_told 99 = .ok (.ireturn, 1) := by decide +kernel
theorem dX6_told_100 : decode cX6_told 100 = .ok (.aload_n 0, 1) := by decide +kernel
theorem dX6_told_101 : decode cX6_told 101 = .ok (.getfield 19, 3) := by decide +kernel
theorem dX6_told_104 : decode cX6_told 104 = .ok (.getfield 116, 3) := by decide +kernel
theorem dX6_told_107 : decode cX6_told 107 = .ok (.ireturn, 1) := by decide +kernel
theorem dX6_told_108 : decode cX6_told 108 = .ok (.aload_n 0, 1) := by decide +kernel
theorem dX6_told_109 : decode cX6_told 109 = .ok (.getfield 10, 3) := by decide +kernel
theorem dX6_told_112 : decode cX6_told 112 = .ok (.getfield 119, 3) := by decide +kernel
theorem dX6_told_115 : decode cX6_told 115 = .ok (.ireturn, 1) := by decide +kernel
theorem dX6_told_116 : decode cX6_told 116 = .ok (.aload_n 0, 1) := by decide +kernel
theorem dX6_told_117 : decode cX6_told 117 = .ok (.getfield 29, 3) := by decide +kernel
theorem dX6_told_120 : decode cX6_told 120 = .ok (.getfield 122, 3) := by decide +kernel
theorem dX6_told_123 : decode cX6_told 123 = .ok (.ireturn, 1) := by decide +kernel
theorem dX6_told_124 : decode cX6_told 124 = .ok (.aload_n 0, 1) := by decide +kernel
theorem dX6_told_125 : decode cX6_told 125 = .ok (.getfield 29, 3) := by decide +kernel
theorem dX6_told_128 : decode cX6_told 128 = .ok (.getfield 125, 3) := by decide +kernel
theorem dX6_told_131 : decode cX6_told 131 = .ok (.ireturn, 1) := by decide +kernel
theorem dX6_told_132 : decode cX6_told 132 = .ok (.aload_n 0, 1) := by decide +kernel
theorem dX6_told_133 : decode cX6_told 133 = .ok (.getfield 44, 3) := by decide +kernel
theorem dX6_told_136 : decode cX6_told 136 = .ok (.getfield 128, 3) := by decide +kernel
theorem dX6_told_139 : decode cX6_told 139 = .ok (.ireturn, 1) := by decide +kernel
theorem dX6_told_140 : decode cX6_told 140 = .ok (.aload_n 0, 1) := by decide +kernel
theorem dX6_told_141 : decode cX6_told 141 = .ok (.getfield 29, 3) := by decide +kernel
theorem dX6_told_144 : decode cX6_told 144 = .ok (.iconst 0, 1) := by decide +kernel
theorem dX6_told_145 : decode cX6_told 145 = .ok (.aload_n 0, 1) := by decide +kernel
theorem dX6_told_146 : decode cX6_told 146 = .ok (.getfield 19, 3) := by decide +kernel
theorem dX6_told_149 : decode cX6_told 149 = .ok (.getfield 101, 3) := by decide +kernel
theorem dX6_told_152 : decode cX6_told 152 = .ok (.iconst 1, 1) := by decide +kernel
theorem dX6_told_153 : decode cX6_told 153 = .ok (.isub, 1) := by decide +kernel
theorem dX6_told_154 : decode cX6_told 154 = .ok (.invokevirtual 131, 3) := by decide +kernel
theorem dX6_told_157 : decode cX6_told 157 = .ok (.ireturn, 1) := by decide +kernel
theorem dX6_told_158 : decode cX6_told 158 = .ok (.ldc 73, 2) := by decide +kernel
theorem dX6_told_160 : decode cX6_told 160 = .ok (.ireturn, 1) := by decide +kernel
theorem dX6_slip_0 : decode cX6_slip 0 = .ok (.aload_n 0, 1) := by decide +kernel
theorem dX6_slip_1 : decode cX6_slip 1 = .ok (.getfield 19, 3) := by decide +kernel
theorem dX6_slip_4 : decode cX6_slip 4 = .ok (.iload_n 1, 1) := by decide +kernel
theorem dX6_slip_5 : decode cX6_slip 5 = .ok (.invokevirtual 135, 3) := by decide +kernel
theorem dX6_slip_8 : decode cX6_slip 8 = .ok (.ifCond .eq 14, 3) := by decide +kernel
theorem dX6_slip_11 : decode cX6_slip 11 = .ok (.aload_n 0, 1) := by decide +kernel
theorem dX6_slip_12 : decode cX6_slip 12 = .ok (.getfield 29, 3) := by decide +kernel
theorem dX6_slip_15 : decode cX6_slip 15 = .ok (.iload_n 1, 1) := by decide +kernel
theorem dX6_slip_16 : decode cX6_slip 16 = .ok (.invokevirtual 139, 3) := by decide +kernel
theorem dX6_slip_19 : decode cX6_slip 19 = .ok (.goto 5, 3) := by decide +kernel
theorem dX6_slip_22 : decode cX6_slip 22 = .ok (.ldc 143, 2) := by decide +kernel
theorem dX6_slip_24 : decode cX6_slip 24 = .ok (.ireturn, 1) := by decide +kernel
theorem dX6_climber_0 : decode cX6_climber 0 = .ok (.aload_n 0, 1) := by decide +kernel
theorem dX6_climber_1 : decode cX6_climber 1 = .ok (.getfield 19, 3) := by decide +kernel
theorem dX6_climber_4 : decode cX6_climber 4 = .ok (.iload_n 1, 1) := by decide +kernel
theorem dX6_climber_5 : decode cX6_climber 5 = .ok (.invokevirtual 144, 3) := by decide +kernel
theorem dX6_climber_8 : decode cX6_climber 8 = .ok (.ifCond .ne 6, 3) := by decide +kernel
theorem dX6_climber_11 : decode cX6_climber 11 = .ok (.ldc 143, 2) := by decide +kernel
theorem dX6_climber_13 : decode cX6_climber 13 = .ok (.ireturn, 1) := by decide +kernel
theorem dX6_climber_14 : decode cX6_climber 14 = .ok (.iload_n 2, 1) := by decide +kernel
theorem dX6_climber_15 : decode cX6_climber 15 = .ok (.tableswitch 71 0 3 #[29, 38, 47, 56], 29) := by decide +kernel
theorem dX6_climber_44 : decode cX6_climber 44 = .ok (.aload_n 0, 1) := by decide +kernel
theorem dX6_climber_45 : decode cX6_climber 45 = .ok (.getfield 19, 3) := by decide +kernel
theorem dX6_climber_48 : decode cX6_climber 48 = .ok (.iload_n 1, 1) := by decide +kernel
theorem dX6_climber_49 : decode cX6_climber 49 = .ok (.invokevirtual 147, 3) := by decide +kernel
theorem dX6_climber_52 : decode cX6_climber 52 = .ok (.ireturn, 1) := by decide +kernel
theorem dX6_climber_53 : decode cX6_climber 53 = .ok (.aload_n 0, 1) := by decide +kernel
theorem dX6_climber_54 : decode cX6_climber 54 = .ok (.getfield 19, 3) := by decide +kernel
theorem dX6_climber_57 : decode cX6_climber 57 = .ok (.iload_n 1, 1) := by decide +kernel
theorem dX6_climber_58 : decode cX6_climber 58 = .ok (.invokevirtual 150, 3) := by decide +kernel
theorem dX6_climber_61 : decode cX6_climber 61 = .ok (.ireturn, 1) := by decide +kernel
theorem dX6_climber_62 : decode cX6_climber 62 = .ok (.aload_n 0, 1) := by decide +kernel
theorem dX6_climber_63 : decode cX6_climber 63 = .ok (.getfield 19, 3) := by decide +kernel
theorem dX6_climber_66 : decode cX6_climber 66 = .ok (.iload_n 1, 1) := by decide +kernel
theorem dX6_climber_67 : decode cX6_climber 67 = .ok (.invokevirtual 153, 3) := by decide +kernel
theorem dX6_climber_70 : decode cX6_climber 70 = .ok (.ireturn, 1) := by decide +kernel
theorem dX6_climber_71 : decode cX6_climber 71 = .ok (.aload_n 0, 1) := by decide +kernel
theorem dX6_climber_72 : decode cX6_climber 72 = .ok (.getfield 29, 3) := by decide +kernel
theorem dX6_climber_75 : decode cX6_climber 75 = .ok (.aload_n 0, 1) := by decide +kernel
theorem dX6_climber_76 : decode cX6_climber 76 = .ok (.getfield 19, 3) := by decide +kernel
theorem dX6_climber_79 : decode cX6_climber 79 = .ok (.iload_n 1, 1) := by decide +kernel
theorem dX6_climber_80 : decode cX6_climber 80 = .ok (.iconst 0, 1) := by decide +kernel
theorem dX6_climber_81 : decode cX6_climber 81 = .ok (.iconst 0, 1) := by decide +kernel
theorem dX6_climber_82 : decode cX6_climber 82 = .ok (.invokevirtual 156, 3) := by decide +kernel
theorem dX6_climber_85 : decode cX6_climber 85 = .ok (.ireturn, 1) := by decide +kernel
theorem dX6_climber_86 : decode cX6_climber 86 = .ok (.ldc 73, 2) := by decide +kernel
theorem dX6_climber_88 : decode cX6_climber 88 = .ok (.ireturn, 1) := by decide +kernel
theorem dX6_go_0 : decode cX6_go 0 = .ok (.aload_n 0, 1) := by decide +kernel
theorem dX6_go_1 : decode cX6_go 1 = .ok (.getfield 19, 3) := by decide +kernel
theorem dX6_go_4 : decode cX6_go 4 = .ok (.iload_n 1, 1) := by decide +kernel
theorem dX6_go_5 : decode cX6_go 5 = .ok (.invokevirtual 144, 3) := by decide +kernel
theorem dX6_go_8 : decode cX6_go 8 = .ok (.ifCond .ne 6, 3) := by decide +kernel
theorem dX6_go_11 : decode cX6_go 11 = .ok (.ldc 143, 2) := by decide +kernel
theorem dX6_go_13 : decode cX6_go 13 = .ok (.ireturn, 1) := by decide +kernel
theorem dX6_go_14 : decode cX6_go 14 = .ok (.aload_n 0, 1) := by decide +kernel
theorem dX6_go_15 : decode cX6_go 15 = .ok (.getfield 19, 3) := by decide +kernel
theorem dX6_go_18 : decode cX6_go 18 = .ok (.getfield 101, 3) := by decide +kernel
theorem dX6_go_21 : decode cX6_go 21 = .ok (.ifCond .ne 6, 3) := by decide +kernel
theorem dX6_go_24 : decode cX6_go 24 = .ok (.ldc 160, 2) := by decide +kernel
theorem dX6_go_26 : decode cX6_go 26 = .ok (.ireturn, 1) := by decide +kernel
theorem dX6_go_27 : decode cX6_go 27 = .ok (.aload_n 0, 1) := by decide +kernel
theorem dX6_go_28 : decode cX6_go 28 = .ok (.getfield 29, 3) := by decide +kernel
theorem dX6_go_31 : decode cX6_go 31 = .ok (.aload_n 0, 1) := by decide +kernel
theorem dX6_go_32 : decode cX6_go 32 = .ok (.getfield 19, 3) := by decide +kernel
theorem dX6_go_35 : decode cX6_go 35 = .ok (.iload_n 1, 1) := by decide +kernel
theorem dX6_go_36 : decode cX6_go 36 = .ok (.iconst 0, 1) := by decide +kernel
theorem dX6_go_37 : decode cX6_go 37 = .ok (.invokevirtual 161, 3) := by decide +kernel
theorem dX6_go_40 : decode cX6_go 40 = .ok (.ireturn, 1) := by decide +kernel
theorem dX6_soap_0 : decode cX6_soap 0 = .ok (.aload_n 0, 1) := by decide +kernel
theorem dX6_soap_1 : decode cX6_soap 1 = .ok (.getfield 19, 3) := by decide +kernel
theorem dX6_soap_4 : decode cX6_soap 4 = .ok (.iload_n 1, 1) := by decide +kernel
theorem dX6_soap_5 : decode cX6_soap 5 = .ok (.invokevirtual 135, 3) := by decide +kernel
theorem dX6_soap_8 : decode cX6_soap 8 = .ok (.ifCond .eq 14, 3) := by decide +kernel
theorem dX6_soap_11 : decode cX6_soap 11 = .ok (.aload_n 0, 1) := by decide +kernel
theorem dX6_soap_12 : decode cX6_soap 12 = .ok (.getfield 19, 3) := by decide +kernel
theorem dX6_soap_15 : decode cX6_soap 15 = .ok (.iload_n 2, 1) := by decide +kernel
theorem dX6_soap_16 : decode cX6_soap 16 = .ok (.invokevirtual 135, 3) := by decide +kernel
theorem dX6_soap_19 : decode cX6_soap 19 = .ok (.ifCond .ne 6, 3) := by decide +kernel
theorem dX6_soap_22 : decode cX6_soap 22 = .ok (.ldc 143, 2) := by decide +kernel
theorem dX6_soap_24 : decode cX6_soap 24 = .ok (.ireturn, 1) := by decide +kernel
theorem dX6_soap_25 : decode cX6_soap 25 = .ok (.iload_n 2, 1) := by decide +kernel
theorem dX6_soap_26 : decode cX6_soap 26 = .ok (.iload_n 1, 1) := by decide +kernel
theorem dX6_soap_27 : decode cX6_soap 27 = .ok (.if_icmp .lt 14, 3) := by decide +kernel
theorem dX6_soap_30 : decode cX6_soap 30 = .ok (.iload_n 3, 1) := by decide +kernel
theorem dX6_soap_31 : decode cX6_soap 31 = .ok (.iconst 1, 1) := by decide +kernel
theorem dX6_soap_32 : decode cX6_soap 32 = .ok (.if_icmp .lt 9, 3) := by decide +kernel
theorem dX6_soap_35 : decode cX6_soap 35 = .ok (.iload_n 3, 1) := by decide +kernel
theorem dX6_soap_36 : decode cX6_soap 36 = .ok (.bipush 99, 2) := by decide +kernel
theorem dX6_soap_38 : decode cX6_soap 38 = .ok (.if_icmp .le 6, 3) := by decide +kernel
theorem dX6_soap_41 : decode cX6_soap 41 = .ok (.ldc 73, 2) := by decide +kernel
theorem dX6_soap_43 : decode cX6_soap 43 = .ok (.ireturn, 1) := by decide +kernel
theorem dX6_soap_44 : decode cX6_soap 44 = .ok (.aload_n 0, 1) := by decide +kernel
theorem dX6_soap_45 : decode cX6_soap 45 = .ok (.getfield 29, 3) := by decide +kernel
theorem dX6_soap_48 : decode cX6_soap 48 = .ok (.iload_n 1, 1) := by decide +kernel
theorem dX6_soap_49 : decode cX6_soap 49 = .ok (.iload_n 2, 1) := by decide +kernel
theorem dX6_soap_50 : decode cX6_soap 50 = .ok (.iload_n 3, 1) := by decide +kernel
theorem dX6_soap_51 : decode cX6_soap 51 = .ok (.invokevirtual 165, 3) := by decide +kernel
theorem dX6_soap_54 : decode cX6_soap 54 = .ok (.aload_n 0, 1) := by decide +kernel
theorem dX6_soap_55 : decode cX6_soap 55 = .ok (.getfield 29, 3) := by decide +kernel
theorem dX6_soap_58 : decode cX6_soap 58 = .ok (.iload_n 1, 1) := by decide +kernel
theorem dX6_soap_59 : decode cX6_soap 59 = .ok (.iload_n 2, 1) := by decide +kernel
theorem dX6_soap_60 : decode cX6_soap 60 = .ok (.invokevirtual 131, 3) := by decide +kernel
theorem dX6_soap_63 : decode cX6_soap 63 = .ok (.ireturn, 1) := by decide +kernel
theorem dX6_hang_0 : decode cX6_hang 0 = .ok (.aload_n 0, 1) := by decide +kernel
theorem dX6_hang_1 : decode cX6_hang 1 = .ok (.getfield 29, 3) := by decide +kernel
theorem dX6_hang_4 : decode cX6_hang 4 = .ok (.getfield 125, 3) := by decide +kernel
theorem dX6_hang_7 : decode cX6_hang 7 = .ok (.istore_n 1, 1) := by decide +kernel
theorem dX6_hang_8 : decode cX6_hang 8 = .ok (.aload_n 0, 1) := by decide +kernel
theorem dX6_hang_9 : decode cX6_hang 9 = .ok (.getfield 29, 3) := by decide +kernel
theorem dX6_hang_12 : decode cX6_hang 12 = .ok (.iconst (-1), 1) := by decide +kernel
theorem dX6_hang_13 : decode cX6_hang 13 = .ok (.putfield 125, 3) := by decide +kernel
theorem dX6_hang_16 : decode cX6_hang 16 = .ok (.iload_n 1, 1) := by decide +kernel
theorem dX6_hang_17 : decode cX6_hang 17 = .ok (.ireturn, 1) := by decide +kernel
theorem dX6_begin_0 : decode cX6_begin 0 = .ok (.aload_n 0, 1) := by decide +kernel
theorem dX6_begin_1 : decode cX6_begin 1 = .ok (.getfield 29, 3) := by decide +kernel
theorem dX6_begin_4 : decode cX6_begin 4 = .ok (.getfield 122, 3) := by decide +kernel
theorem dX6_begin_7 : decode cX6_begin 7 = .ok (.istore_n 1, 1) := by decide +kernel
theorem dX6_begin_8 : decode cX6_begin 8 = .ok (.aload_n 0, 1) := by decide +kernel
theorem dX6_begin_9 : decode cX6_begin 9 = .ok (.getfield 29, 3) := by decide +kernel
theorem dX6_begin_12 : decode cX6_begin 12 = .ok (.aload_n 0, 1) := by decide +kernel
theorem dX6_begin_13 : decode cX6_begin 13 = .ok (.getfield 19, 3) := by decide +kernel
theorem dX6_begin_16 : decode cX6_begin 16 = .ok (.invokevirtual 97, 3) := by decide +kernel
theorem dX6_begin_19 : decode cX6_begin 19 = .ok (.iload_n 1, 1) := by decide +kernel
theorem dX6_begin_20 : decode cX6_begin 20 = .ok (.ireturn, 1) := by decide +kernel
theorem dX6_drift_0 : decode cX6_drift 0 = .ok (.iload_n 1, 1) := by decide +kernel
theorem dX6_drift_1 : decode cX6_drift 1 = .ok (.iconst 1, 1) := by decide +kernel
theorem dX6_drift_2 : decode cX6_drift 2 = .ok (.if_icmp .lt 9, 3) := by decide +kernel
theorem dX6_drift_5 : decode cX6_drift 5 = .ok (.iload_n 1, 1) := by decide +kernel
theorem dX6_drift_6 : decode cX6_drift 6 = .ok (.bipush 99, 2) := by decide +kernel
theorem dX6_drift_8 : decode cX6_drift 8 = .ok (.if_icmp .le 6, 3) := by decide +kernel
theorem dX6_drift_11 : decode cX6_drift 11 = .ok (.ldc 73, 2) := by decide +kernel
theorem dX6_drift_13 : decode cX6_drift 13 = .ok (.ireturn, 1) := by decide +kernel
theorem dX6_drift_14 : decode cX6_drift 14 = .ok (.aload_n 0, 1) := by decide +kernel
theorem dX6_drift_15 : decode cX6_drift 15 = .ok (.getfield 19, 3) := by decide +kernel
theorem dX6_drift_18 : decode cX6_drift 18 = .ok (.getfield 101, 3) := by decide +kernel
theorem dX6_drift_21 : decode cX6_drift 21 = .ok (.ifCond .eq 13, 3) := by decide +kernel
theorem dX6_drift_24 : decode cX6_drift 24 = .ok (.aload_n 0, 1) := by decide +kernel
theorem dX6_drift_25 : decode cX6_drift 25 = .ok (.getfield 19, 3) := by decide +kernel
theorem dX6_drift_28 : decode cX6_drift 28 = .ok (.getfield 104, 3) := by decide +kernel
theorem dX6_drift_31 : decode cX6_drift 31 = .ok (.ifCond .ne 6, 3) := by decide +kernel
theorem dX6_drift_34 : decode cX6_drift 34 = .ok (.ldc 160, 2) := by decide +kernel
theorem dX6_drift_36 : decode cX6_drift 36 = .ok (.ireturn, 1) := by decide +kernel
theorem dX6_drift_37 : decode cX6_drift 37 = .ok (.iconst 0, 1) := by decide +kernel
theorem dX6_drift_38 : decode cX6_drift 38 = .ok (.istore_n 2, 1) := by decide +kernel
theorem dX6_drift_39 : decode cX6_drift 39 = .ok (.iload_n 2, 1) := by decide +kernel
theorem dX6_drift_40 : decode cX6_drift 40 = .ok (.iload_n 1, 1) := by decide +kernel
theorem dX6_drift_41 : decode cX6_drift 41 = .ok (.if_icmp .ge 47, 3) := by decide +kernel
theorem dX6_drift_44 : decode cX6_drift 44 = .ok (.aload_n 0, 1) := by decide +kernel
theorem dX6_drift_45 : decode cX6_drift 45 = .ok (.getfield 29, 3) := by decide +kernel
theorem dX6_drift_48 : decode cX6_drift 48 = .ok (.getfield 125, 3) := by decide +kernel
theorem dX6_drift_51 : decode cX6_drift 51 = .ok (.iconst (-1), 1) := by decide +kernel
theorem dX6_drift_52 : decode cX6_drift 52 = .ok (.if_icmp .ne 36, 3) := by decide +kernel
theorem dX6_drift_55 : decode cX6_drift 55 = .ok (.aload_n 0, 1) := by decide +kernel
theorem dX6_drift_56 : decode cX6_drift 56 = .ok (.getfield 29, 3) := by decide +kernel
theorem dX6_drift_59 : decode cX6_drift 59 = .ok (.aload_n 0, 1) := by decide +kernel
theorem dX6_drift_60 : decode cX6_drift 60 = .ok (.getfield 19, 3) := by decide +kernel
theorem dX6_drift_63 : decode cX6_drift 63 = .ok (.aload_n 0, 1) := by decide +kernel
theorem dX6_drift_64 : decode cX6_drift 64 = .ok (.getfield 29, 3) := by decide +kernel
theorem dX6_drift_67 : decode cX6_drift 67 = .ok (.aload_n 0, 1) := by decide +kernel
theorem dX6_drift_68 : decode cX6_drift 68 = .ok (.getfield 19, 3) := by decide +kernel
theorem dX6_drift_71 : decode cX6_drift 71 = .ok (.getfield 104, 3) := by decide +kernel
theorem dX6_drift_74 : decode cX6_drift 74 = .ok (.invokevirtual 169, 3) := by decide +kernel
theorem dX6_drift_77 : decode cX6_drift 77 = .ok (.iconst 0, 1) := by decide +kernel
theorem dX6_drift_78 : decode cX6_drift 78 = .ok (.invokevirtual 161, 3) := by decide +kernel
theorem dX6_drift_81 : decode cX6_drift 81 = .ok (.pop, 1) := by decide +kernel
theorem dX6_drift_82 : decode cX6_drift 82 = .ok (.iinc 2 1, 3) := by decide +kernel
theorem dX6_drift_85 : decode cX6_drift 85 = .ok (.goto (-46), 3) := by decide +kernel
theorem dX6_drift_88 : decode cX6_drift 88 = .ok (.aload_n 0, 1) := by decide +kernel
theorem dX6_drift_89 : decode cX6_drift 89 = .ok (.getfield 29, 3) := by decide +kernel
theorem dX6_drift_92 : decode cX6_drift 92 = .ok (.getfield 125, 3) := by decide +kernel
theorem dX6_drift_95 : decode cX6_drift 95 = .ok (.ireturn, 1) := by decide +kernel
theorem dX6_order_0 : decode cX6_order 0 = .ok (.aload_n 0, 1) := by decide +kernel
theorem dX6_order_1 : decode cX6_order 1 = .ok (.invokevirtual 172, 3) := by decide +kernel
theorem dX6_order_4 : decode cX6_order 4 = .ok (.aload_n 0, 1) := by decide +kernel
theorem dX6_order_5 : decode cX6_order 5 = .ok (.getfield 51, 3) := by decide +kernel
theorem dX6_order_8 : decode cX6_order 8 = .ok (.aload_n 0, 1) := by decide +kernel
theorem dX6_order_9 : decode cX6_order 9 = .ok (.getfield 19, 3) := by decide +kernel
theorem dX6_order_12 : decode cX6_order 12 = .ok (.aload_n 0, 1) := by decide +kernel
theorem dX6_order_13 : decode cX6_order 13 = .ok (.getfield 62, 3) := by decide +kernel
theorem dX6_order_16 : decode cX6_order 16 = .ok (.iload_n 1, 1) := by decide +kernel
theorem dX6_order_17 : decode cX6_order 17 = .ok (.invokevirtual 175, 3) := by decide +kernel
theorem dX6_order_20 : decode cX6_order 20 = .ok (.ireturn, 1) := by decide +kernel
theorem dX6_forOne_0 : decode cX6_forOne 0 = .ok (.aload_n 0, 1) := by decide +kernel
theorem dX6_forOne_1 : decode cX6_forOne 1 = .ok (.getfield 19, 3) := by decide +kernel
theorem dX6_forOne_4 : decode cX6_forOne 4 = .ok (.iload_n 1, 1) := by decide +kernel
theorem dX6_forOne_5 : decode cX6_forOne 5 = .ok (.invokevirtual 144, 3) := by decide +kernel
theorem dX6_forOne_8 : decode cX6_forOne 8 = .ok (.ifCond .ne 6, 3) := by decide +kernel
theorem dX6_forOne_11 : decode cX6_forOne 11 = .ok (.ldc 143, 2) := by decide +kernel
theorem dX6_forOne_13 : decode cX6_forOne 13 = .ok (.ireturn, 1) := by decide +kernel
theorem dX6_forOne_14 : decode cX6_forOne 14 = .ok (.aload_n 0, 1) := by decide +kernel
theorem dX6_forOne_15 : decode cX6_forOne 15 = .ok (.invokevirtual 172, 3) := by decide +kernel
theorem dX6_forOne_18 : decode cX6_forOne 18 = .ok (.aload_n 0, 1) := by decide +kernel
theorem dX6_forOne_19 : decode cX6_forOne 19 = .ok (.getfield 51, 3) := by decide +kernel
theorem dX6_forOne_22 : decode cX6_forOne 22 = .ok (.aload_n 0, 1) := by decide +kernel
theorem dX6_forOne_23 : decode cX6_forOne 23 = .ok (.getfield 19, 3) := by decide +kernel
theorem dX6_forOne_26 : decode cX6_forOne 26 = .ok (.aload_n 0, 1) := by decide +kernel
theorem dX6_forOne_27 : decode cX6_forOne 27 = .ok (.getfield 62, 3) := by decide +kernel
theorem dX6_forOne_30 : decode cX6_forOne 30 = .ok (.iload_n 1, 1) := by decide +kernel
theorem dX6_forOne_31 : decode cX6_forOne 31 = .ok (.iload_n 2, 1) := by decide +kernel
theorem dX6_forOne_32 : decode cX6_forOne 32 = .ok (.invokevirtual 179, 3) := by decide +kernel
theorem dX6_forOne_35 : decode cX6_forOne 35 = .ok (.ireturn, 1) := by decide +kernel
theorem dX6_rests_0 : decode cX6_rests 0 = .ok (.iload_n 1, 1) := by decide +kernel
theorem dX6_rests_1 : decode cX6_rests 1 = .ok (.iconst (-1), 1) := by decide +kernel
theorem dX6_rests_2 : decode cX6_rests 2 = .ok (.if_icmp .eq 17, 3) := by decide +kernel
theorem dX6_rests_5 : decode cX6_rests 5 = .ok (.aload_n 0, 1) := by decide +kernel
theorem dX6_rests_6 : decode cX6_rests 6 = .ok (.getfield 19, 3) := by decide +kernel
theorem dX6_rests_9 : decode cX6_rests 9 = .ok (.iload_n 1, 1) := by decide +kernel
theorem dX6_rests_10 : decode cX6_rests 10 = .ok (.invokevirtual 144, 3) := by decide +kernel
theorem dX6_rests_13 : decode cX6_rests 13 = .ok (.ifCond .ne 6, 3) := by decide +kernel
theorem dX6_rests_16 : decode cX6_rests 16 = .ok (.ldc 143, 2) := by decide +kernel
theorem dX6_rests_18 : decode cX6_rests 18 = .ok (.ireturn, 1) := by decide +kernel
theorem dX6_rests_19 : decode cX6_rests 19 = .ok (.aload_n 0, 1) := by decide +kernel
theorem dX6_rests_20 : decode cX6_rests 20 = .ok (.invokevirtual 172, 3) := by decide +kernel
theorem dX6_rests_23 : decode cX6_rests 23 = .ok (.aload_n 0, 1) := by decide +kernel
theorem dX6_rests_24 : decode cX6_rests 24 = .ok (.getfield 58, 3) := by decide +kernel
theorem dX6_rests_27 : decode cX6_rests 27 = .ok (.aload_n 0, 1) := by decide +kernel
theorem dX6_rests_28 : decode cX6_rests 28 = .ok (.getfield 19, 3) := by decide +kernel
theorem dX6_rests_31 : decode cX6_rests 31 = .ok (.aload_n 0, 1) := by decide +kernel
theorem dX6_rests_32 : decode cX6_rests 32 = .ok (.getfield 62, 3) := by decide +kernel
theorem dX6_rests_35 : decode cX6_rests 35 = .ok (.iload_n 1, 1) := by decide +kernel
theorem dX6_rests_36 : decode cX6_rests 36 = .ok (.invokevirtual 183, 3) := by decide +kernel
theorem dX6_rests_39 : decode cX6_rests 39 = .ok (.ireturn, 1) := by decide +kernel
theorem dX6_tower_0 : decode cX6_tower 0 = .ok (.aload_n 0, 1) := by decide +kernel
theorem dX6_tower_1 : decode cX6_tower 1 = .ok (.getfield 19, 3) := by decide +kernel
theorem dX6_tower_4 : decode cX6_tower 4 = .ok (.iload_n 1, 1) := by decide +kernel
theorem dX6_tower_5 : decode cX6_tower 5 = .ok (.invokevirtual 144, 3) := by decide +kernel
theorem dX6_tower_8 : decode cX6_tower 8 = .ok (.ifCond .eq 19, 3) := by decide +kernel
theorem dX6_tower_11 : decode cX6_tower 11 = .ok (.aload_n 0, 1) := by decide +kernel
theorem dX6_tower_12 : decode cX6_tower 12 = .ok (.getfield 19, 3) := by decide +kernel
theorem dX6_tower_15 : decode cX6_tower 15 = .ok (.iload_n 2, 1) := by decide +kernel
theorem dX6_tower_16 : decode cX6_tower 16 = .ok (.invokevirtual 144, 3) := by decide +kernel
theorem dX6_tower_19 : decode cX6_tower 19 = .ok (.ifCond .eq 8, 3) := by decide +kernel
theorem dX6_tower_22 : decode cX6_tower 22 = .ok (.iload_n 1, 1) := by decide +kernel
theorem dX6_tower_23 : decode cX6_tower 23 = .ok (.iload_n 2, 1) := by decide +kernel
theorem dX6_tower_24 : decode cX6_tower 24 = .ok (.if_icmp .ne 6, 3) := by decide +kernel
theorem dX6_tower_27 : decode cX6_tower 27 = .ok (.ldc 143, 2) := by decide +kernel
theorem dX6_tower_29 : decode cX6_tower 29 = .ok (.ireturn, 1) := by decide +kernel
theorem dX6_tower_30 : decode cX6_tower 30 = .ok (.aload_n 0, 1) := by decide +kernel
theorem dX6_tower_31 : decode cX6_tower 31 = .ok (.getfield 19, 3) := by decide +kernel
theorem dX6_tower_34 : decode cX6_tower 34 = .ok (.getfield 101, 3) := by decide +kernel
theorem dX6_tower_37 : decode cX6_tower 37 = .ok (.ifCond .ne 6, 3) := by decide +kernel
theorem dX6_tower_40 : decode cX6_tower 40 = .ok (.ldc 160, 2) := by decide +kernel
theorem dX6_tower_42 : decode cX6_tower 42 = .ok (.ireturn, 1) := by decide +kernel
theorem dX6_tower_43 : decode cX6_tower 43 = .ok (.aload_n 0, 1) := by decide +kernel
theorem dX6_tower_44 : decode cX6_tower 44 = .ok (.getfield 19, 3) := by decide +kernel
theorem dX6_tower_47 : decode cX6_tower 47 = .ok (.iload_n 1, 1) := by decide +kernel
theorem dX6_tower_48 : decode cX6_tower 48 = .ok (.invokevirtual 150, 3) := by decide +kernel
theorem dX6_tower_51 : decode cX6_tower 51 = .ok (.iconst 2, 1) := by decide +kernel
theorem dX6_tower_52 : decode cX6_tower 52 = .ok (.aload_n 0, 1) := by decide +kernel
theorem dX6_tower_53 : decode cX6_tower 53 = .ok (.getfield 19, 3) := by decide +kernel
theorem dX6_tower_56 : decode cX6_tower 56 = .ok (.iload_n 2, 1) := by decide +kernel
theorem dX6_tower_57 : decode cX6_tower 57 = .ok (.invokevirtual 147, 3) := by decide +kernel
theorem dX6_tower_60 : decode cX6_tower 60 = .ok (.imul, 1) := by decide +kernel
theorem dX6_tower_61 : decode cX6_tower 61 = .ok (.if_icmp .ge 5, 3) := by decide +kernel
theorem dX6_tower_64 : decode cX6_tower 64 = .ok (.iconst (-1), 1) := by decide +kernel
theorem dX6_tower_65 : decode cX6_tower 65 = .ok (.ireturn, 1) := by decide +kernel
theorem dX6_tower_66 : decode cX6_tower 66 = .ok (.aload_n 0, 1) := by decide +kernel
theorem dX6_tower_67 : decode cX6_tower 67 = .ok (.getfield 19, 3) := by decide +kernel
theorem dX6_tower_70 : decode cX6_tower 70 = .ok (.getfield 101, 3) := by decide +kernel
theorem dX6_tower_73 : decode cX6_tower 73 = .ok (.iconst 5, 1) := by decide +kernel
theorem dX6_tower_74 : decode cX6_tower 74 = .ok (.if_icmp .le 7, 3) := by decide +kernel
theorem dX6_tower_77 : decode cX6_tower 77 = .ok (.iconst 5, 1) := by decide +kernel
theorem dX6_tower_78 : decode cX6_tower 78 = .ok (.goto 4, 3) := by decide +kernel
theorem dX6_tower_81 : decode cX6_tower 81 = .ok (.iconst 0, 1) := by decide +kernel
theorem dX6_tower_82 : decode cX6_tower 82 = .ok (.istore_n 3, 1) := by decide +kernel
theorem dX6_tower_83 : decode cX6_tower 83 = .ok (.aload_n 0, 1) := by decide +kernel
theorem dX6_tower_84 : decode cX6_tower 84 = .ok (.getfield 29, 3) := by decide +kernel
theorem dX6_tower_87 : decode cX6_tower 87 = .ok (.aload_n 0, 1) := by decide +kernel
theorem dX6_tower_88 : decode cX6_tower 88 = .ok (.getfield 19, 3) := by decide +kernel
theorem dX6_tower_91 : decode cX6_tower 91 = .ok (.iload_n 2, 1) := by decide +kernel
theorem dX6_tower_92 : decode cX6_tower 92 = .ok (.iload_n 3, 1) := by decide +kernel
theorem dX6_tower_93 : decode cX6_tower 93 = .ok (.iconst 0, 1) := by decide +kernel
theorem dX6_tower_94 : decode cX6_tower 94 = .ok (.invokevirtual 156, 3) := by decide +kernel
theorem dX6_tower_97 : decode cX6_tower 97 = .ok (.ireturn, 1) := by decide +kernel
theorem dX6_lookAgain_0 : decode cX6_lookAgain 0 = .ok (.aload_n 0, 1) := by decide +kernel
theorem dX6_lookAgain_1 : decode cX6_lookAgain 1 = .ok (.getfield 65, 3) := by decide +kernel
theorem dX6_lookAgain_4 : decode cX6_lookAgain 4 = .ok (.ifCond .eq 18, 3) := by decide +kernel
theorem dX6_lookAgain_7 : decode cX6_lookAgain 7 = .ok (.aload_n 0, 1) := by decide +kernel
theorem dX6_lookAgain_8 : decode cX6_lookAgain 8 = .ok (.getfield 62, 3) := by decide +kernel
theorem dX6_lookAgain_11 : decode cX6_lookAgain 11 = .ok (.aload_n 0, 1) := by decide +kernel
theorem dX6_lookAgain_12 : decode cX6_lookAgain 12 = .ok (.getfield 29, 3) := by decide +kernel
theorem dX6_lookAgain_15 : decode cX6_lookAgain 15 = .ok (.invokevirtual 186, 3) := by decide +kernel
theorem dX6_lookAgain_18 : decode cX6_lookAgain 18 = .ok (.ifCond .eq 4, 3) := by decide +kernel
theorem dX6_lookAgain_21 : decode cX6_lookAgain 21 = .ok (.return_, 1) := by decide +kernel
theorem dX6_lookAgain_22 : decode cX6_lookAgain 22 = .ok (.aload_n 0, 1) := by decide +kernel
theorem dX6_lookAgain_23 : decode cX6_lookAgain 23 = .ok (.getfield 62, 3) := by decide +kernel
theorem dX6_lookAgain_26 : decode cX6_lookAgain 26 = .ok (.aload_n 0, 1) := by decide +kernel
theorem dX6_lookAgain_27 : decode cX6_lookAgain 27 = .ok (.getfield 29, 3) := by decide +kernel
theorem dX6_lookAgain_30 : decode cX6_lookAgain 30 = .ok (.invokevirtual 190, 3) := by decide +kernel
theorem dX6_lookAgain_33 : decode cX6_lookAgain 33 = .ok (.aload_n 0, 1) := by decide +kernel
theorem dX6_lookAgain_34 : decode cX6_lookAgain 34 = .ok (.iconst 1, 1) := by decide +kernel
theorem dX6_lookAgain_35 : decode cX6_lookAgain 35 = .ok (.putfield 65, 3) := by decide +kernel
theorem dX6_lookAgain_38 : decode cX6_lookAgain 38 = .ok (.aload_n 0, 1) := by decide +kernel
theorem dX6_lookAgain_39 : decode cX6_lookAgain 39 = .ok (.getfield 51, 3) := by decide +kernel
theorem dX6_lookAgain_42 : decode cX6_lookAgain 42 = .ok (.invokevirtual 193, 3) := by decide +kernel
theorem dX6_lookAgain_45 : decode cX6_lookAgain 45 = .ok (.aload_n 0, 1) := by decide +kernel
theorem dX6_lookAgain_46 : decode cX6_lookAgain 46 = .ok (.getfield 58, 3) := by decide +kernel
theorem dX6_lookAgain_49 : decode cX6_lookAgain 49 = .ok (.invokevirtual 196, 3) := by decide +kernel
theorem dX6_lookAgain_52 : decode cX6_lookAgain 52 = .ok (.return_, 1) := by decide +kernel
theorem dX6_list_0 : decode cX6_list 0 = .ok (.aload_n 0, 1) := by decide +kernel
theorem dX6_list_1 : decode cX6_list 1 = .ok (.getfield 19, 3) := by decide +kernel
theorem dX6_list_4 : decode cX6_list 4 = .ok (.iload_n 1, 1) := by decide +kernel
theorem dX6_list_5 : decode cX6_list 5 = .ok (.invokevirtual 144, 3) := by decide +kernel
theorem dX6_list_8 : decode cX6_list 8 = .ok (.ifCond .ne 6, 3) := by decide +kernel
theorem dX6_list_11 : decode cX6_list 11 = .ok (.ldc 143, 2) := by decide +kernel
theorem dX6_list_13 : decode cX6_list 13 = .ok (.ireturn, 1) := by decide +kernel
theorem dX6_list_14 : decode cX6_list 14 = .ok (.iload_n 2, 1) := by decide +kernel
theorem dX6_list_15 : decode cX6_list 15 = .ok (.ifCond .lt 9, 3) := by decide +kernel
theorem dX6_list_18 : decode cX6_list 18 = .ok (.iload_n 2, 1) := by decide +kernel
theorem dX6_list_19 : decode cX6_list 19 = .ok (.bipush 30, 2) := by decide +kernel
theorem dX6_list_21 : decode cX6_list 21 = .ok (.if_icmp .le 6, 3) := by decide +kernel
theorem dX6_list_24 : decode cX6_list 24 = .ok (.ldc 73, 2) := by decide +kernel
theorem dX6_list_26 : decode cX6_list 26 = .ok (.ireturn, 1) := by decide +kernel
theorem dX6_list_27 : decode cX6_list 27 = .ok (.aload_n 0, 1) := by decide +kernel
theorem dX6_list_28 : decode cX6_list 28 = .ok (.getfield 44, 3) := by decide +kernel
theorem dX6_list_31 : decode cX6_list 31 = .ok (.iload_n 1, 1) := by decide +kernel
theorem dX6_list_32 : decode cX6_list 32 = .ok (.iload_n 2, 1) := by decide +kernel
theorem dX6_list_33 : decode cX6_list 33 = .ok (.invokevirtual 197, 3) := by decide +kernel
theorem dX6_list_36 : decode cX6_list 36 = .ok (.ireturn, 1) := by decide +kernel
theorem dX6_tear_0 : decode cX6_tear 0 = .ok (.aload_n 0, 1) := by decide +kernel
theorem dX6_tear_1 : decode cX6_tear 1 = .ok (.getfield 44, 3) := by decide +kernel
theorem dX6_tear_4 : decode cX6_tear 4 = .ok (.getfield 128, 3) := by decide +kernel
theorem dX6_tear_7 : decode cX6_tear 7 = .ok (.istore_n 1, 1) := by decide +kernel
theorem dX6_tear_8 : decode cX6_tear 8 = .ok (.aload_n 0, 1) := by decide +kernel
theorem dX6_tear_9 : decode cX6_tear 9 = .ok (.getfield 44, 3) := by decide +kernel
theorem dX6_tear_12 : decode cX6_tear 12 = .ok (.invokevirtual 100, 3) := by decide +kernel
theorem dX6_tear_15 : decode cX6_tear 15 = .ok (.iload_n 1, 1) := by decide +kernel
theorem dX6_tear_16 : decode cX6_tear 16 = .ok (.ireturn, 1) := by decide +kernel
theorem dX6_enough_0 : decode cX6_enough 0 = .ok (.iload_n 1, 1) := by decide +kernel
theorem dX6_enough_1 : decode cX6_enough 1 = .ok (.ifCond .lt 9, 3) := by decide +kernel
theorem dX6_enough_4 : decode cX6_enough 4 = .ok (.iload_n 1, 1) := by decide +kernel
theorem dX6_enough_5 : decode cX6_enough 5 = .ok (.bipush 12, 2) := by decide +kernel
theorem dX6_enough_7 : decode cX6_enough 7 = .ok (.if_icmp .lt 6, 3) := by decide +kernel
theorem dX6_enough_10 : decode cX6_enough 10 = .ok (.ldc 73, 2) := by decide +kernel
theorem dX6_enough_12 : decode cX6_enough 12 = .ok (.ireturn, 1) := by decide +kernel
theorem dX6_enough_13 : decode cX6_enough 13 = .ok (.aload_n 0, 1) := by decide +kernel
theorem dX6_enough_14 : decode cX6_enough 14 = .ok (.getfield 44, 3) := by decide +kernel
theorem dX6_enough_17 : decode cX6_enough 17 = .ok (.aload_n 0, 1) := by decide +kernel
theorem dX6_enough_18 : decode cX6_enough 18 = .ok (.getfield 19, 3) := by decide +kernel
theorem dX6_enough_21 : decode cX6_enough 21 = .ok (.aload_n 0, 1) := by decide +kernel
theorem dX6_enough_22 : decode cX6_enough 22 = .ok (.getfield 29, 3) := by decide +kernel
theorem dX6_enough_25 : decode cX6_enough 25 = .ok (.iload_n 1, 1) := by decide +kernel
theorem dX6_enough_26 : decode cX6_enough 26 = .ok (.invokevirtual 199, 3) := by decide +kernel
theorem dX6_enough_29 : decode cX6_enough 29 = .ok (.ireturn, 1) := by decide +kernel
theorem dX6_judge_0 : decode cX6_judge 0 = .ok (.aload_n 0, 1) := by decide +kernel
theorem dX6_judge_1 : decode cX6_judge 1 = .ok (.getfield 44, 3) := by decide +kernel
theorem dX6_judge_4 : decode cX6_judge 4 = .ok (.aload_n 0, 1) := by decide +kernel
theorem dX6_judge_5 : decode cX6_judge 5 = .ok (.getfield 19, 3) := by decide +kernel
theorem dX6_judge_8 : decode cX6_judge 8 = .ok (.aload_n 0, 1) := by decide +kernel
theorem dX6_judge_9 : decode cX6_judge 9 = .ok (.getfield 29, 3) := by decide +kernel
theorem dX6_judge_12 : decode cX6_judge 12 = .ok (.iconst (-1), 1) := by decide +kernel
theorem dX6_judge_13 : decode cX6_judge 13 = .ok (.invokevirtual 202, 3) := by decide +kernel
theorem dX6_judge_16 : decode cX6_judge 16 = .ok (.ireturn, 1) := by decide +kernel
theorem dX6_sand_0 : decode cX6_sand 0 = .ok (.iconst 0, 1) := by decide +kernel
theorem dX6_sand_1 : decode cX6_sand 1 = .ok (.istore_n 1, 1) := by decide +kernel
theorem dX6_sand_2 : decode cX6_sand 2 = .ok (.iconst 0, 1) := by decide +kernel
theorem dX6_sand_3 : decode cX6_sand 3 = .ok (.istore_n 2, 1) := by decide +kernel
theorem dX6_sand_4 : decode cX6_sand 4 = .ok (.iload_n 2, 1) := by decide +kernel
theorem dX6_sand_5 : decode cX6_sand 5 = .ok (.aload_n 0, 1) := by decide +kernel
theorem dX6_sand_6 : decode cX6_sand 6 = .ok (.getfield 19, 3) := by decide +kernel
theorem dX6_sand_9 : decode cX6_sand 9 = .ok (.getfield 104, 3) := by decide +kernel
theorem dX6_sand_12 : decode cX6_sand 12 = .ok (.if_icmp .ge 35, 3) := by decide +kernel
theorem dX6_sand_15 : decode cX6_sand 15 = .ok (.aload_n 0, 1) := by decide +kernel
theorem dX6_sand_16 : decode cX6_sand 16 = .ok (.getfield 44, 3) := by decide +kernel
theorem dX6_sand_19 : decode cX6_sand 19 = .ok (.aload_n 0, 1) := by decide +kernel
theorem dX6_sand_20 : decode cX6_sand 20 = .ok (.getfield 19, 3) := by decide +kernel
theorem dX6_sand_23 : decode cX6_sand 23 = .ok (.aload_n 0, 1) := by decide +kernel
theorem dX6_sand_24 : decode cX6_sand 24 = .ok (.getfield 29, 3) := by decide +kernel
theorem dX6_sand_27 : decode cX6_sand 27 = .ok (.iload_n 2, 1) := by decide +kernel
theorem dX6_sand_28 : decode cX6_sand 28 = .ok (.invokevirtual 202, 3) := by decide +kernel
theorem dX6_sand_31 : decode cX6_sand 31 = .ok (.iconst (-1), 1) := by decide +kernel
theorem dX6_sand_32 : decode cX6_sand 32 = .ok (.if_icmp .ne 9, 3) := by decide +kernel
theorem dX6_sand_35 : decode cX6_sand 35 = .ok (.iload_n 1, 1) := by decide +kernel
theorem dX6_sand_36 : decode cX6_sand 36 = .ok (.iconst 1, 1) := by decide +kernel
theorem dX6_sand_37 : decode cX6_sand 37 = .ok (.iload_n 2, 1) := by decide +kernel
theorem dX6_sand_38 : decode cX6_sand 38 = .ok (.ishl, 1) := by decide +kernel
theorem dX6_sand_39 : decode cX6_sand 39 = .ok (.ior, 1) := by decide +kernel
theorem dX6_sand_40 : decode cX6_sand 40 = .ok (.istore_n 1, 1) := by decide +kernel
theorem dX6_sand_41 : decode cX6_sand 41 = .ok (.iinc 2 1, 3) := by decide +kernel
theorem dX6_sand_44 : decode cX6_sand 44 = .ok (.goto (-40), 3) := by decide +kernel
theorem dX6_sand_47 : decode cX6_sand 47 = .ok (.iload_n 1, 1) := by decide +kernel
theorem dX6_sand_48 : decode cX6_sand 48 = .ok (.ireturn, 1) := by decide +kernel
theorem dX6_seed_0 : decode cX6_seed 0 = .ok (.iload_n 1, 1) := by decide +kernel
theorem dX6_seed_1 : decode cX6_seed 1 = .ok (.ifCond .ge 6, 3) := by decide +kernel
theorem dX6_seed_4 : decode cX6_seed 4 = .ok (.ldc 73, 2) := by decide +kernel
theorem dX6_seed_6 : decode cX6_seed 6 = .ok (.ireturn, 1) := by decide +kernel
theorem dX6_seed_7 : decode cX6_seed 7 = .ok (.aload_n 0, 1) := by decide +kernel
theorem dX6_seed_8 : decode cX6_seed 8 = .ok (.getfield 29, 3) := by decide +kernel
theorem dX6_seed_11 : decode cX6_seed 11 = .ok (.getfield 205, 3) := by decide +kernel
theorem dX6_seed_14 : decode cX6_seed 14 = .ok (.istore_n 2, 1) := by decide +kernel
theorem dX6_seed_15 : decode cX6_seed 15 = .ok (.aload_n 0, 1) := by decide +kernel
theorem dX6_seed_16 : decode cX6_seed 16 = .ok (.getfield 29, 3) := by decide +kernel
theorem dX6_seed_19 : decode cX6_seed 19 = .ok (.iload_n 1, 1) := by decide +kernel
theorem dX6_seed_20 : decode cX6_seed 20 = .ok (.putfield 205, 3) := by decide +kernel
theorem dX6_seed_23 : decode cX6_seed 23 = .ok (.iload_n 2, 1) := by decide +kernel
theorem dX6_seed_24 : decode cX6_seed 24 = .ok (.ireturn, 1) := by decide +kernel
theorem dX6_keep_0 : decode cX6_keep 0 = .ok (.aload_n 0, 1) := by decide +kernel
theorem dX6_keep_1 : decode cX6_keep 1 = .ok (.iload_n 1, 1) := by decide +kernel
theorem dX6_keep_2 : decode cX6_keep 2 = .ok (.invokevirtual 208, 3) := by decide +kernel
theorem dX6_keep_5 : decode cX6_keep 5 = .ok (.ifCond .ne 6, 3) := by decide +kernel
theorem dX6_keep_8 : decode cX6_keep 8 = .ok (.ldc 143, 2) := by decide +kernel
theorem dX6_keep_10 : decode cX6_keep 10 = .ok (.ireturn, 1) := by decide +kernel
theorem dX6_keep_11 : decode cX6_keep 11 = .ok (.aload_n 0, 1) := by decide +kernel
theorem dX6_keep_12 : decode cX6_keep 12 = .ok (.getfield 33, 3) := by decide +kernel
theorem dX6_keep_15 : decode cX6_keep 15 = .ok (.iload_n 1, 1) := by decide +kernel
theorem dX6_keep_16 : decode cX6_keep 16 = .ok (.aaload, 1) := by decide +kernel
theorem dX6_keep_17 : decode cX6_keep 17 = .ok (.aload_n 0, 1) := by decide +kernel
theorem dX6_keep_18 : decode cX6_keep 18 = .ok (.getfield 29, 3) := by decide +kernel
theorem dX6_keep_21 : decode cX6_keep 21 = .ok (.invokevirtual 190, 3) := by decide +kernel
theorem dX6_keep_24 : decode cX6_keep 24 = .ok (.aload_n 0, 1) := by decide +kernel
theorem dX6_keep_25 : decode cX6_keep 25 = .ok (.getfield 37, 3) := by decide +kernel
theorem dX6_keep_28 : decode cX6_keep 28 = .ok (.iload_n 1, 1) := by decide +kernel
theorem dX6_keep_29 : decode cX6_keep 29 = .ok (.iconst 1, 1) := by decide +kernel
theorem dX6_keep_30 : decode cX6_keep 30 = .ok (.bastore, 1) := by decide +kernel
theorem dX6_keep_31 : decode cX6_keep 31 = .ok (.iconst 1, 1) := by decide +kernel
theorem dX6_keep_32 : decode cX6_keep 32 = .ok (.ireturn, 1) := by decide +kernel
theorem dX6_goBack_0 : decode cX6_goBack 0 = .ok (.aload_n 0, 1) := by decide +kernel
theorem dX6_goBack_1 : decode cX6_goBack 1 = .ok (.iload_n 1, 1) := by decide +kernel
theorem dX6_goBack_2 : decode cX6_goBack 2 = .ok (.invokevirtual 208, 3) := by decide +kernel
theorem dX6_goBack_5 : decode cX6_goBack 5 = .ok (.ifCond .ne 6, 3) := by decide +kernel
theorem dX6_goBack_8 : decode cX6_goBack 8 = .ok (.ldc 143, 2) := by decide +kernel
theorem dX6_goBack_10 : decode cX6_goBack 10 = .ok (.ireturn, 1) := by decide +kernel
theorem dX6_goBack_11 : decode cX6_goBack 11 = .ok (.aload_n 0, 1) := by decide +kernel
theorem dX6_goBack_12 : decode cX6_goBack 12 = .ok (.getfield 37, 3) := by decide +kernel
theorem dX6_goBack_15 : decode cX6_goBack 15 = .ok (.iload_n 1, 1) := by decide +kernel
theorem dX6_goBack_16 : decode cX6_goBack 16 = .ok (.baload, 1) := by decide +kernel
theorem dX6_goBack_17 : decode cX6_goBack 17 = .ok (.ifCond .ne 6, 3) := by decide +kernel
theorem dX6_goBack_20 : decode cX6_goBack 20 = .ok (.ldc 160, 2) := by decide +kernel
theorem dX6_goBack_22 : decode cX6_goBack 22 = .ok (.ireturn, 1) := by decide +kernel
theorem dX6_goBack_23 : decode cX6_goBack 23 = .ok (.aload_n 0, 1) := by decide +kernel
theorem dX6_goBack_24 : decode cX6_goBack 24 = .ok (.getfield 29, 3) := by decide +kernel
theorem dX6_goBack_27 : decode cX6_goBack 27 = .ok (.aload_n 0, 1) := by decide +kernel
theorem dX6_goBack_28 : decode cX6_goBack 28 = .ok (.getfield 33, 3) := by decide +kernel
theorem dX6_goBack_31 : decode cX6_goBack 31 = .ok (.iload_n 1, 1) := by decide +kernel
theorem dX6_goBack_32 : decode cX6_goBack 32 = .ok (.aaload, 1) := by decide +kernel
theorem dX6_goBack_33 : decode cX6_goBack 33 = .ok (.invokevirtual 190, 3) := by decide +kernel
theorem dX6_goBack_36 : decode cX6_goBack 36 = .ok (.iconst 1, 1) := by decide +kernel
theorem dX6_goBack_37 : decode cX6_goBack 37 = .ok (.ireturn, 1) := by decide +kernel
theorem dX6_isImage_0 : decode cX6_isImage 0 = .ok (.iload_n 1, 1) := by decide +kernel
theorem dX6_isImage_1 : decode cX6_isImage 1 = .ok (.ifCond .lt 25, 3) := by decide +kernel
theorem dX6_isImage_4 : decode cX6_isImage 4 = .ok (.iload_n 1, 1) := by decide +kernel
theorem dX6_isImage_5 : decode cX6_isImage 5 = .ok (.aload_n 0, 1) := by decide +kernel
theorem dX6_isImage_6 : decode cX6_isImage 6 = .ok (.getfield 33, 3) := by decide +kernel
theorem dX6_isImage_9 : decode cX6_isImage 9 = .ok (.arraylength, 1) := by decide +kernel
theorem dX6_isImage_10 : decode cX6_isImage 10 = .ok (.if_icmp .ge 16, 3) := by decide +kernel
theorem dX6_isImage_13 : decode cX6_isImage 13 = .ok (.iload_n 1, 1) := by decide +kernel
theorem dX6_isImage_14 : decode cX6_isImage 14 = .ok (.aload_n 0, 1) := by decide +kernel
theorem dX6_isImage_15 : decode cX6_isImage 15 = .ok (.getfield 37, 3) := by decide +kernel
theorem dX6_isImage_18 : decode cX6_isImage 18 = .ok (.arraylength, 1) := by decide +kernel
theorem dX6_isImage_19 : decode cX6_isImage 19 = .ok (.if_icmp .ge 7, 3) := by decide +kernel
theorem dX6_isImage_22 : decode cX6_isImage 22 = .ok (.iconst 1, 1) := by decide +kernel
theorem dX6_isImage_23 : decode cX6_isImage 23 = .ok (.goto 4, 3) := by decide +kernel
theorem dX6_isImage_26 : decode cX6_isImage 26 = .ok (.iconst 0, 1) := by decide +kernel
theorem dX6_isImage_27 : decode cX6_isImage 27 = .ok (.ireturn, 1) := by decide +kernel
theorem dX6_copyRow_0 : decode cX6_copyRow 0 = .ok (.aload_n 0, 1) := by decide +kernel
theorem dX6_copyRow_1 : decode cX6_copyRow 1 = .ok (.iconst 0, 1) := by decide +kernel
theorem dX6_copyRow_2 : decode cX6_copyRow 2 = .ok (.aload_n 1, 1) := by decide +kernel
theorem dX6_copyRow_3 : decode cX6_copyRow 3 = .ok (.iconst 0, 1) := by decide +kernel
theorem dX6_copyRow_4 : decode cX6_copyRow 4 = .ok (.aload_n 0, 1) := by decide +kernel
theorem dX6_copyRow_5 : decode cX6_copyRow 5 = .ok (.arraylength, 1) := by decide +kernel
theorem dX6_copyRow_6 : decode cX6_copyRow 6 = .ok (.aload_n 1, 1) := by decide +kernel
theorem dX6_copyRow_7 : decode cX6_copyRow 7 = .ok (.arraylength, 1) := by decide +kernel
theorem dX6_copyRow_8 : decode cX6_copyRow 8 = .ok (.invokestatic 211, 3) := by decide +kernel
theorem dX6_copyRow_11 : decode cX6_copyRow 11 = .ok (.invokestatic 216, 3) := by decide +kernel
theorem dX6_copyRow_14 : decode cX6_copyRow 14 = .ok (.return_, 1) := by decide +kernel
theorem dJ0_length_8abf5_0 : decode cJ0_length_8abf5 0 = .ok (.aload_n 0, 1) := by decide +kernel
theorem dJ0_length_8abf5_1 : decode cJ0_length_8abf5 1 = .ok (.getfield 9, 3) := by decide +kernel
theorem dJ0_length_8abf5_4 : decode cJ0_length_8abf5 4 = .ok (.arraylength, 1) := by decide +kernel
theorem dJ0_length_8abf5_5 : decode cJ0_length_8abf5 5 = .ok (.aload_n 0, 1) := by decide +kernel
theorem dJ0_length_8abf5_6 : decode cJ0_length_8abf5 6 = .ok (.invokevirtual 335, 3) := by decide +kernel
theorem dJ0_length_8abf5_9 : decode cJ0_length_8abf5 9 = .ok (.ishr, 1) := by decide +kernel
theorem dJ0_length_8abf5_10 : decode cJ0_length_8abf5 10 = .ok (.ireturn, 1) := by decide +kernel
theorem dJ0_charAt_5068e_0 : decode cJ0_charAt_5068e 0 = .ok (.aload_n 0, 1) := by decide +kernel
theorem dJ0_charAt_5068e_1 : decode cJ0_charAt_5068e 1 = .ok (.invokevirtual 492, 3) := by decide +kernel
theorem dJ0_charAt_5068e_4 : decode cJ0_charAt_5068e 4 = .ok (.ifCond .eq 12, 3) := by decide +kernel
theorem dJ0_charAt_5068e_7 : decode cJ0_charAt_5068e 7 = .ok (.aload_n 0, 1) := by decide +kernel
theorem dJ0_charAt_5068e_8 : decode cJ0_charAt_5068e 8 = .ok (.getfield 9, 3) := by decide +kernel
theorem dJ0_charAt_5068e_11 : decode cJ0_charAt_5068e 11 = .ok (.iload_n 1, 1) := by decide +kernel
theorem dJ0_charAt_5068e_12 : decode cJ0_charAt_5068e 12 = .ok (.invokestatic 495, 3) := by decide +kernel
theorem dJ0_charAt_5068e_15 : decode cJ0_charAt_5068e 15 = .ok (.ireturn, 1) := by decide +kernel
theorem dJ0_charAt_5068e_16 : decode cJ0_charAt_5068e 16 = .ok (.aload_n 0, 1) := by decide +kernel
theorem dJ0_charAt_5068e_17 : decode cJ0_charAt_5068e 17 = .ok (.getfield 9, 3) := by decide +kernel
theorem dJ0_charAt_5068e_20 : decode cJ0_charAt_5068e 20 = .ok (.iload_n 1, 1) := by decide +kernel
theorem dJ0_charAt_5068e_21 : decode cJ0_charAt_5068e 21 = .ok (.invokestatic 498, 3) := by decide +kernel
theorem dJ0_charAt_5068e_24 : decode cJ0_charAt_5068e 24 = .ok (.ireturn, 1) := by decide +kernel
theorem dJ0_coder_7d493_0 : decode cJ0_coder_7d493 0 = .ok (.getstatic 38, 3) := by decide +kernel
theorem dJ0_coder_7d493_3 : decode cJ0_coder_7d493 3 = .ok (.ifCond .eq 10, 3) := by decide +kernel
theorem dJ0_coder_7d493_6 : decode cJ0_coder_7d493 6 = .ok (.aload_n 0, 1) := by decide +kernel
theorem dJ0_coder_7d493_7 : decode cJ0_coder_7d493 7 = .ok (.getfield 15, 3) := by decide +kernel
theorem dJ0_coder_7d493_10 : decode cJ0_coder_7d493 10 = .ok (.goto 4, 3) := by decide +kernel
theorem dJ0_coder_7d493_13 : decode cJ0_coder_7d493 13 = .ok (.iconst 1, 1) := by decide +kernel
theorem dJ0_coder_7d493_14 : decode cJ0_coder_7d493 14 = .ok (.ireturn, 1) := by decide +kernel
theorem dJ0_isLatin1_aae02_0 : decode cJ0_isLatin1_aae02 0 = .ok (.getstatic 38, 3) := by decide +kernel
theorem dJ0_isLatin1_aae02_3 : decode cJ0_isLatin1_aae02 3 = .ok (.ifCond .eq 14, 3) := by decide +kernel
theorem dJ0_isLatin1_aae02_6 : decode cJ0_isLatin1_aae02 6 = .ok (.aload_n 0, 1) := by decide +kernel
theorem dJ0_isLatin1_aae02_7 : decode cJ0_isLatin1_aae02 7 = .ok (.getfield 15, 3) := by decide +kernel
theorem dJ0_isLatin1_aae02_10 : decode cJ0_isLatin1_aae02 10 = .ok (.ifCond .ne 7, 3) := by decide +kernel
theorem dJ0_isLatin1_aae02_13 : decode cJ0_isLatin1_aae02 13 = .ok (.iconst 1, 1) := by decide +kernel
theorem dJ0_isLatin1_aae02_14 : decode cJ0_isLatin1_aae02 14 = .ok (.goto 4, 3) := by decide +kernel
theorem dJ0_isLatin1_aae02_17 : decode cJ0_isLatin1_aae02 17 = .ok (.iconst 0, 1) := by decide +kernel
theorem dJ0_isLatin1_aae02_18 : decode cJ0_isLatin1_aae02 18 = .ok (.ireturn, 1) := by decide +kernel
theorem dJ0_checkIndex_df160_0 : decode cJ0_checkIndex_df160 0 = .ok (.iload_n 0, 1) := by decide +kernel
theorem dJ0_checkIndex_df160_1 : decode cJ0_checkIndex_df160 1 = .ok (.iload_n 1, 1) := by decide +kernel
theorem dJ0_checkIndex_df160_2 : decode cJ0_checkIndex_df160 2 = .ok (.getstatic 1053, 3) := by decide +kernel
theorem dJ0_checkIndex_df160_5 : decode cJ0_checkIndex_df160 5 = .ok (.invokestatic 1059, 3) := by decide +kernel
theorem dJ0_checkIndex_df160_8 : decode cJ0_checkIndex_df160 8 = .ok (.pop, 1) := by decide +kernel
theorem dJ0_checkIndex_df160_9 : decode cJ0_checkIndex_df160 9 = .ok (.return_, 1) := by decide +kernel
theorem dJ1_charAt_3b067_0 : decode cJ1_charAt_3b067 0 = .ok (.iload_n 1, 1) := by decide +kernel
theorem dJ1_charAt_3b067_1 : decode cJ1_charAt_3b067 1 = .ok (.aload_n 0, 1) := by decide +kernel
theorem dJ1_charAt_3b067_2 : decode cJ1_charAt_3b067 2 = .ok (.arraylength, 1) := by decide +kernel
theorem dJ1_charAt_3b067_3 : decode cJ1_charAt_3b067 3 = .ok (.invokestatic 9, 3) := by decide +kernel
theorem dJ1_charAt_3b067_6 : decode cJ1_charAt_3b067 6 = .ok (.aload_n 0, 1) := by decide +kernel
theorem dJ1_charAt_3b067_7 : decode cJ1_charAt_3b067 7 = .ok (.iload_n 1, 1) := by decide +kernel
theorem dJ1_charAt_3b067_8 : decode cJ1_charAt_3b067 8 = .ok (.baload, 1) := by decide +kernel
theorem dJ1_charAt_3b067_9 : decode cJ1_charAt_3b067 9 = .ok (.sipush 255, 3) := by decide +kernel
theorem dJ1_charAt_3b067_12 : decode cJ1_charAt_3b067 12 = .ok (.iand, 1) := by decide +kernel
theorem dJ1_charAt_3b067_13 : decode cJ1_charAt_3b067 13 = .ok (.i2c, 1) := by decide +kernel
theorem dJ1_charAt_3b067_14 : decode cJ1_charAt_3b067 14 = .ok (.ireturn, 1) := by decide +kernel
theorem dJ2_getChar_3b067_0 : decode cJ2_getChar_3b067 0 = .ok (.getstatic 44, 3) := by decide +kernel
theorem dJ2_getChar_3b067_3 : decode cJ2_getChar_3b067 3 = .ok (.ifCond .ne 25, 3) := by decide +kernel
theorem dJ2_getChar_3b067_6 : decode cJ2_getChar_3b067 6 = .ok (.iload_n 1, 1) := by decide +kernel
theorem dJ2_getChar_3b067_7 : decode cJ2_getChar_3b067 7 = .ok (.ifCond .lt 11, 3) := by decide +kernel
theorem dJ2_getChar_3b067_10 : decode cJ2_getChar_3b067 10 = .ok (.iload_n 1, 1) := by decide +kernel
theorem dJ2_getChar_3b067_11 : decode cJ2_getChar_3b067 11 = .ok (.aload_n 0, 1) := by decide +kernel
theorem dJ2_getChar_3b067_12 : decode cJ2_getChar_3b067 12 = .ok (.invokestatic 48, 3) := by decide +kernel
theorem dJ2_getChar_3b067_15 : decode cJ2_getChar_3b067 15 = .ok (.if_icmp .lt 13, 3) := by decide +kernel
theorem dJ2_getChar_3b067_18 : decode cJ2_getChar_3b067 18 = .ok (.new 52, 3) := by decide +kernel
theorem dJ2_getChar_3b067_21 : decode cJ2_getChar_3b067 21 = .ok (.dup, 1) := by decide +kernel
theorem dJ2_getChar_3b067_22 : decode cJ2_getChar_3b067 22 = .ok (.ldc 54, 2) := by decide +kernel
theorem dJ2_getChar_3b067_24 : decode cJ2_getChar_3b067 24 = .ok (.invokespecial 56, 3) := by decide +kernel
theorem dJ2_getChar_3b067_27 : decode cJ2_getChar_3b067 27 = .ok (.athrow, 1) := by decide +kernel
theorem dJ2_getChar_3b067_28 : decode cJ2_getChar_3b067 28 = .ok (.iload_n 1, 1) := by decide +kernel
theorem dJ2_getChar_3b067_29 : decode cJ2_getChar_3b067 29 = .ok (.iconst 1, 1) := by decide +kernel
theorem dJ2_getChar_3b067_30 : decode cJ2_getChar_3b067 30 = .ok (.ishl, 1) := by decide +kernel
theorem dJ2_getChar_3b067_31 : decode cJ2_getChar_3b067 31 = .ok (.istore_n 1, 1) := by decide +kernel
theorem dJ2_getChar_3b067_32 : decode cJ2_getChar_3b067 32 = .ok (.aload_n 0, 1) := by decide +kernel
theorem dJ2_getChar_3b067_33 : decode cJ2_getChar_3b067 33 = .ok (.iload_n 1, 1) := by decide +kernel
theorem dJ2_getChar_3b067_34 : decode cJ2_getChar_3b067 34 = .ok (.iinc 1 1, 3) := by decide +kernel
theorem dJ2_getChar_3b067_37 : decode cJ2_getChar_3b067 37 = .ok (.baload, 1) := by decide +kernel
theorem dJ2_getChar_3b067_38 : decode cJ2_getChar_3b067 38 = .ok (.sipush 255, 3) := by decide +kernel
theorem dJ2_getChar_3b067_41 : decode cJ2_getChar_3b067 41 = .ok (.iand, 1) := by decide +kernel
theorem dJ2_getChar_3b067_42 : decode cJ2_getChar_3b067 42 = .ok (.getstatic 59, 3) := by decide +kernel
theorem dJ2_getChar_3b067_45 : decode cJ2_getChar_3b067 45 = .ok (.ishl, 1) := by decide +kernel
theorem dJ2_getChar_3b067_46 : decode cJ2_getChar_3b067 46 = .ok (.aload_n 0, 1) := by decide +kernel
theorem dJ2_getChar_3b067_47 : decode cJ2_getChar_3b067 47 = .ok (.iload_n 1, 1) := by decide +kernel
theorem dJ2_getChar_3b067_48 : decode cJ2_getChar_3b067 48 = .ok (.baload, 1) := by decide +kernel
theorem dJ2_getChar_3b067_49 : decode cJ2_getChar_3b067 49 = .ok (.sipush 255, 3) := by decide +kernel
theorem dJ2_getChar_3b067_52 : decode cJ2_getChar_3b067 52 = .ok (.iand, 1) := by decide +kernel
theorem dJ2_getChar_3b067_53 : decode cJ2_getChar_3b067 53 = .ok (.getstatic 63, 3) := by decide +kernel
theorem dJ2_getChar_3b067_56 : decode cJ2_getChar_3b067 56 = .ok (.ishl, 1) := by decide +kernel
theorem dJ2_getChar_3b067_57 : decode cJ2_getChar_3b067 57 = .ok (.ior, 1) := by decide +kernel
theorem dJ2_getChar_3b067_58 : decode cJ2_getChar_3b067 58 = .ok (.i2c, 1) := by decide +kernel
theorem dJ2_getChar_3b067_59 : decode cJ2_getChar_3b067 59 = .ok (.ireturn, 1) := by decide +kernel
theorem dJ2_length_9d52b_0 : decode cJ2_length_9d52b 0 = .ok (.aload_n 0, 1) := by decide +kernel
theorem dJ2_length_9d52b_1 : decode cJ2_length_9d52b 1 = .ok (.arraylength, 1) := by decide +kernel
theorem dJ2_length_9d52b_2 : decode cJ2_length_9d52b 2 = .ok (.iconst 1, 1) := by decide +kernel
theorem dJ2_length_9d52b_3 : decode cJ2_length_9d52b 3 = .ok (.ishr, 1) := by decide +kernel
theorem dJ2_length_9d52b_4 : decode cJ2_length_9d52b 4 = .ok (.ireturn, 1) := by decide +kernel
theorem dJ2_charAt_3b067_0 : decode cJ2_charAt_3b067 0 = .ok (.iload_n 1, 1) := by decide +kernel
theorem dJ2_charAt_3b067_1 : decode cJ2_charAt_3b067 1 = .ok (.aload_n 0, 1) := by decide +kernel
theorem dJ2_charAt_3b067_2 : decode cJ2_charAt_3b067 2 = .ok (.invokestatic 67, 3) := by decide +kernel
theorem dJ2_charAt_3b067_5 : decode cJ2_charAt_3b067 5 = .ok (.aload_n 0, 1) := by decide +kernel
theorem dJ2_charAt_3b067_6 : decode cJ2_charAt_3b067 6 = .ok (.iload_n 1, 1) := by decide +kernel
theorem dJ2_charAt_3b067_7 : decode cJ2_charAt_3b067 7 = .ok (.invokestatic 71, 3) := by decide +kernel
theorem dJ2_charAt_3b067_10 : decode cJ2_charAt_3b067 10 = .ok (.ireturn, 1) := by decide +kernel
theorem dJ2_checkIndex_2214a_0 : decode cJ2_checkIndex_2214a 0 = .ok (.iload_n 0, 1) := by decide +kernel
theorem dJ2_checkIndex_2214a_1 : decode cJ2_checkIndex_2214a 1 = .ok (.aload_n 1, 1) := by decide +kernel
theorem dJ2_checkIndex_2214a_2 : decode cJ2_checkIndex_2214a 2 = .ok (.invokestatic 48, 3) := by decide +kernel
theorem dJ2_checkIndex_2214a_5 : decode cJ2_checkIndex_2214a 5 = .ok (.invokestatic 414, 3) := by decide +kernel
theorem dJ2_checkIndex_2214a_8 : decode cJ2_checkIndex_2214a 8 = .ok (.return_, 1) := by decide +kernel
theorem dJ3_checkIndex_8e157_0 : decode cJ3_checkIndex_8e157 0 = .ok (.iload_n 0, 1) := by decide +kernel
theorem dJ3_checkIndex_8e157_1 : decode cJ3_checkIndex_8e157 1 = .ok (.ifCond .lt 8, 3) := by decide +kernel
theorem dJ3_checkIndex_8e157_4 : decode cJ3_checkIndex_8e157 4 = .ok (.iload_n 0, 1) := by decide +kernel
theorem dJ3_checkIndex_8e157_5 : decode cJ3_checkIndex_8e157 5 = .ok (.iload_n 1, 1) := by decide +kernel
theorem dJ3_checkIndex_8e157_6 : decode cJ3_checkIndex_8e157 6 = .ok (.if_icmp .lt 10, 3) := by decide +kernel
theorem dJ3_checkIndex_8e157_9 : decode cJ3_checkIndex_8e157 9 = .ok (.aload_n 2, 1) := by decide +kernel
theorem dJ3_checkIndex_8e157_10 : decode cJ3_checkIndex_8e157 10 = .ok (.iload_n 0, 1) := by decide +kernel
theorem dJ3_checkIndex_8e157_11 : decode cJ3_checkIndex_8e157 11 = .ok (.iload_n 1, 1) := by decide +kernel
theorem dJ3_checkIndex_8e157_12 : decode cJ3_checkIndex_8e157 12 = .ok (.invokestatic 95, 3) := by decide +kernel
theorem dJ3_checkIndex_8e157_15 : decode cJ3_checkIndex_8e157 15 = .ok (.athrow, 1) := by decide +kernel
theorem dJ3_checkIndex_8e157_16 : decode cJ3_checkIndex_8e157 16 = .ok (.iload_n 0, 1) := by decide +kernel
theorem dJ3_checkIndex_8e157_17 : decode cJ3_checkIndex_8e157 17 = .ok (.ireturn, 1) := by decide +kernel
theorem dJ9_max_7cf53_0 : decode cJ9_max_7cf53 0 = .ok (.iload_n 0, 1) := by decide +kernel
theorem dJ9_max_7cf53_1 : decode cJ9_max_7cf53 1 = .ok (.iload_n 1, 1) := by decide +kernel
theorem dJ9_max_7cf53_2 : decode cJ9_max_7cf53 2 = .ok (.if_icmp .lt 7, 3) := by decide +kernel
theorem dJ9_max_7cf53_5 : decode cJ9_max_7cf53 5 = .ok (.iload_n 0, 1) := by decide +kernel
theorem dJ9_max_7cf53_6 : decode cJ9_max_7cf53 6 = .ok (.goto 4, 3) := by decide +kernel
theorem dJ9_max_7cf53_9 : decode cJ9_max_7cf53 9 = .ok (.iload_n 1, 1) := by decide +kernel
theorem dJ9_max_7cf53_10 : decode cJ9_max_7cf53 10 = .ok (.ireturn, 1) := by decide +kernel
theorem dJ9_min_7cf53_0 : decode cJ9_min_7cf53 0 = .ok (.iload_n 0, 1) := by decide +kernel
theorem dJ9_min_7cf53_1 : decode cJ9_min_7cf53 1 = .ok (.iload_n 1, 1) := by decide +kernel
theorem dJ9_min_7cf53_2 : decode cJ9_min_7cf53 2 = .ok (.if_icmp .gt 7, 3) := by decide +kernel
theorem dJ9_min_7cf53_5 : decode cJ9_min_7cf53 5 = .ok (.iload_n 0, 1) := by decide +kernel
theorem dJ9_min_7cf53_6 : decode cJ9_min_7cf53 6 = .ok (.goto 4, 3) := by decide +kernel
theorem dJ9_min_7cf53_9 : decode cJ9_min_7cf53 9 = .ok (.iload_n 1, 1) := by decide +kernel
theorem dJ9_min_7cf53_10 : decode cJ9_min_7cf53 10 = .ok (.ireturn, 1) := by decide +kernel
