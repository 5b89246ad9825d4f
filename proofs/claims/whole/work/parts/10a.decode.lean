theorem dX0_init_0 : decode cX0_init 0 = .ok (.aload_n 0, 1) := by decide +kernel
theorem dX0_init_1 : decode cX0_init 1 = .ok (.invokespecial 3, 3) := by decide +kernel
theorem dX0_init_4 : decode cX0_init 4 = .ok (.aload_n 0, 1) := by decide +kernel
theorem dX0_init_5 : decode cX0_init 5 = .ok (.iconst 0, 1) := by decide +kernel
theorem dX0_init_6 : decode cX0_init 6 = .ok (.putfield 9, 3) := by decide +kernel
theorem dX0_init_9 : decode cX0_init 9 = .ok (.aload_n 0, 1) := by decide +kernel
theorem dX0_init_10 : decode cX0_init 10 = .ok (.iconst 0, 1) := by decide +kernel
theorem dX0_init_11 : decode cX0_init 11 = .ok (.putfield 15, 3) := by decide +kernel
theorem dX0_init_14 : decode cX0_init 14 = .ok (.aload_n 0, 1) := by decide +kernel
theorem dX0_init_15 : decode cX0_init 15 = .ok (.iconst 0, 1) := by decide +kernel
theorem dX0_init_16 : decode cX0_init 16 = .ok (.putfield 18, 3) := by decide +kernel
theorem dX0_init_19 : decode cX0_init 19 = .ok (.aload_n 0, 1) := by decide +kernel
theorem dX0_init_20 : decode cX0_init 20 = .ok (.iconst 0, 1) := by decide +kernel
theorem dX0_init_21 : decode cX0_init 21 = .ok (.putfield 22, 3) := by decide +kernel
theorem dX0_init_24 : decode cX0_init 24 = .ok (.aload_n 0, 1) := by decide +kernel
theorem dX0_init_25 : decode cX0_init 25 = .ok (.iconst 1, 1) := by decide +kernel
theorem dX0_init_26 : decode cX0_init 26 = .ok (.putfield 25, 3) := by decide +kernel
theorem dX0_init_29 : decode cX0_init 29 = .ok (.aload_n 0, 1) := by decide +kernel
theorem dX0_init_30 : decode cX0_init 30 = .ok (.bipush 6, 2) := by decide +kernel
theorem dX0_init_32 : decode cX0_init 32 = .ok (.newarray .int, 2) := by decide +kernel
theorem dX0_init_34 : decode cX0_init 34 = .ok (.putfield 28, 3) := by decide +kernel
theorem dX0_init_37 : decode cX0_init 37 = .ok (.aload_n 0, 1) := by decide +kernel
theorem dX0_init_38 : decode cX0_init 38 = .ok (.bipush 6, 2) := by decide +kernel
theorem dX0_init_40 : decode cX0_init 40 = .ok (.newarray .int, 2) := by decide +kernel
theorem dX0_init_42 : decode cX0_init 42 = .ok (.putfield 32, 3) := by decide +kernel
theorem dX0_init_45 : decode cX0_init 45 = .ok (.aload_n 0, 1) := by decide +kernel
theorem dX0_init_46 : decode cX0_init 46 = .ok (.bipush 6, 2) := by decide +kernel
theorem dX0_init_48 : decode cX0_init 48 = .ok (.newarray .int, 2) := by decide +kernel
theorem dX0_init_50 : decode cX0_init 50 = .ok (.putfield 35, 3) := by decide +kernel
theorem dX0_init_53 : decode cX0_init 53 = .ok (.aload_n 0, 1) := by decide +kernel
theorem dX0_init_54 : decode cX0_init 54 = .ok (.bipush 6, 2) := by decide +kernel
theorem dX0_init_56 : decode cX0_init 56 = .ok (.newarray .int, 2) := by decide +kernel
theorem dX0_init_58 : decode cX0_init 58 = .ok (.putfield 38, 3) := by decide +kernel
theorem dX0_init_61 : decode cX0_init 61 = .ok (.aload_n 0, 1) := by decide +kernel
theorem dX0_init_62 : decode cX0_init 62 = .ok (.sipush 4096, 3) := by decide +kernel
theorem dX0_init_65 : decode cX0_init 65 = .ok (.newarray .long, 2) := by decide +kernel
theorem dX0_init_67 : decode cX0_init 67 = .ok (.putfield 41, 3) := by decide +kernel
theorem dX0_init_70 : decode cX0_init 70 = .ok (.aload_n 0, 1) := by decide +kernel
theorem dX0_init_71 : decode cX0_init 71 = .ok (.sipush 4096, 3) := by decide +kernel
theorem dX0_init_74 : decode cX0_init 74 = .ok (.newarray .int, 2) := by decide +kernel
theorem dX0_init_76 : decode cX0_init 76 = .ok (.putfield 45, 3) := by decide +kernel
theorem dX0_init_79 : decode cX0_init 79 = .ok (.aload_n 0, 1) := by decide +kernel
theorem dX0_init_80 : decode cX0_init 80 = .ok (.aload_n 1, 1) := by decide +kernel
theorem dX0_init_81 : decode cX0_init 81 = .ok (.putfield 48, 3) := by decide +kernel
theorem dX0_init_84 : decode cX0_init 84 = .ok (.return_, 1) := by decide +kernel
theorem dX0_lay_0 : decode cX0_lay 0 = .ok (.aload_n 0, 1) := by decide +kernel
theorem dX0_lay_1 : decode cX0_lay 1 = .ok (.aload_n 1, 1) := by decide +kernel
theorem dX0_lay_2 : decode cX0_lay 2 = .ok (.putfield 48, 3) := by decide +kernel
theorem dX0_lay_5 : decode cX0_lay 5 = .ok (.aload_n 0, 1) := by decide +kernel
theorem dX0_lay_6 : decode cX0_lay 6 = .ok (.invokevirtual 52, 3) := by decide +kernel
theorem dX0_lay_9 : decode cX0_lay 9 = .ok (.return_, 1) := by decide +kernel
theorem dX0_lieUnder_0 : decode cX0_lieUnder 0 = .ok (.aload_n 0, 1) := by decide +kernel
theorem dX0_lieUnder_1 : decode cX0_lieUnder 1 = .ok (.getfield 48, 3) := by decide +kernel
theorem dX0_lieUnder_4 : decode cX0_lieUnder 4 = .ok (.getfield 55, 3) := by decide +kernel
theorem dX0_lieUnder_7 : decode cX0_lieUnder 7 = .ok (.getfield 61, 3) := by decide +kernel
theorem dX0_lieUnder_10 : decode cX0_lieUnder 10 = .ok (.iconst 3, 1) := by decide +kernel
theorem dX0_lieUnder_11 : decode cX0_lieUnder 11 = .ok (.baload, 1) := by decide +kernel
theorem dX0_lieUnder_12 : decode cX0_lieUnder 12 = .ok (.ifCond .eq 7, 3) := by decide +kernel
theorem dX0_lieUnder_15 : decode cX0_lieUnder 15 = .ok (.iload_n 1, 1) := by decide +kernel
theorem dX0_lieUnder_16 : decode cX0_lieUnder 16 = .ok (.goto 4, 3) := by decide +kernel
theorem dX0_lieUnder_19 : decode cX0_lieUnder 19 = .ok (.iconst 0, 1) := by decide +kernel
theorem dX0_lieUnder_20 : decode cX0_lieUnder 20 = .ok (.istore 5, 2) := by decide +kernel
theorem dX0_lieUnder_22 : decode cX0_lieUnder 22 = .ok (.aload_n 0, 1) := by decide +kernel
theorem dX0_lieUnder_23 : decode cX0_lieUnder 23 = .ok (.getfield 48, 3) := by decide +kernel
theorem dX0_lieUnder_26 : decode cX0_lieUnder 26 = .ok (.getfield 55, 3) := by decide +kernel
theorem dX0_lieUnder_29 : decode cX0_lieUnder 29 = .ok (.getfield 61, 3) := by decide +kernel
theorem dX0_lieUnder_32 : decode cX0_lieUnder 32 = .ok (.iconst 2, 1) := by decide +kernel
theorem dX0_lieUnder_33 : decode cX0_lieUnder 33 = .ok (.baload, 1) := by decide +kernel
theorem dX0_lieUnder_34 : decode cX0_lieUnder 34 = .ok (.ifCond .eq 7, 3) := by decide +kernel
theorem dX0_lieUnder_37 : decode cX0_lieUnder 37 = .ok (.iload_n 2, 1) := by decide +kernel
theorem dX0_lieUnder_38 : decode cX0_lieUnder 38 = .ok (.goto 4, 3) := by decide +kernel
theorem dX0_lieUnder_41 : decode cX0_lieUnder 41 = .ok (.iconst 0, 1) := by decide +kernel
theorem dX0_lieUnder_42 : decode cX0_lieUnder 42 = .ok (.istore 6, 2) := by decide +kernel
theorem dX0_lieUnder_44 : decode cX0_lieUnder 44 = .ok (.iload 5, 2) := by decide +kernel
theorem dX0_lieUnder_46 : decode cX0_lieUnder 46 = .ok (.aload_n 0, 1) := by decide +kernel
theorem dX0_lieUnder_47 : decode cX0_lieUnder 47 = .ok (.getfield 9, 3) := by decide +kernel
theorem dX0_lieUnder_50 : decode cX0_lieUnder 50 = .ok (.if_icmp .ne 30, 3) := by decide +kernel
theorem dX0_lieUnder_53 : decode cX0_lieUnder 53 = .ok (.iload 6, 2) := by decide +kernel
theorem dX0_lieUnder_55 : decode cX0_lieUnder 55 = .ok (.aload_n 0, 1) := by decide +kernel
theorem dX0_lieUnder_56 : decode cX0_lieUnder 56 = .ok (.getfield 15, 3) := by decide +kernel
theorem dX0_lieUnder_59 : decode cX0_lieUnder 59 = .ok (.if_icmp .ne 21, 3) := by decide +kernel
theorem dX0_lieUnder_62 : decode cX0_lieUnder 62 = .ok (.iload_n 3, 1) := by decide +kernel
theorem dX0_lieUnder_63 : decode cX0_lieUnder 63 = .ok (.aload_n 0, 1) := by decide +kernel
theorem dX0_lieUnder_64 : decode cX0_lieUnder 64 = .ok (.getfield 18, 3) := by decide +kernel
theorem dX0_lieUnder_67 : decode cX0_lieUnder 67 = .ok (.if_icmp .ne 13, 3) := by decide +kernel
theorem dX0_lieUnder_70 : decode cX0_lieUnder 70 = .ok (.iload 4, 2) := by decide +kernel
theorem dX0_lieUnder_72 : decode cX0_lieUnder 72 = .ok (.aload_n 0, 1) := by decide +kernel
theorem dX0_lieUnder_73 : decode cX0_lieUnder 73 = .ok (.getfield 22, 3) := by decide +kernel
theorem dX0_lieUnder_76 : decode cX0_lieUnder 76 = .ok (.if_icmp .ne 4, 3) := by decide +kernel
theorem dX0_lieUnder_79 : decode cX0_lieUnder 79 = .ok (.return_, 1) := by decide +kernel
theorem dX0_lieUnder_80 : decode cX0_lieUnder 80 = .ok (.aload_n 0, 1) := by decide +kernel
theorem dX0_lieUnder_81 : decode cX0_lieUnder 81 = .ok (.iload 5, 2) := by decide +kernel
theorem dX0_lieUnder_83 : decode cX0_lieUnder 83 = .ok (.putfield 9, 3) := by decide +kernel
theorem dX0_lieUnder_86 : decode cX0_lieUnder 86 = .ok (.aload_n 0, 1) := by decide +kernel
theorem dX0_lieUnder_87 : decode cX0_lieUnder 87 = .ok (.iload 6, 2) := by decide +kernel
theorem dX0_lieUnder_89 : decode cX0_lieUnder 89 = .ok (.putfield 15, 3) := by decide +kernel
theorem dX0_lieUnder_92 : decode cX0_lieUnder 92 = .ok (.aload_n 0, 1) := by decide +kernel
theorem dX0_lieUnder_93 : decode cX0_lieUnder 93 = .ok (.iload_n 3, 1) := by decide +kernel
theorem dX0_lieUnder_94 : decode cX0_lieUnder 94 = .ok (.putfield 18, 3) := by decide +kernel
theorem dX0_lieUnder_97 : decode cX0_lieUnder 97 = .ok (.aload_n 0, 1) := by decide +kernel
theorem dX0_lieUnder_98 : decode cX0_lieUnder 98 = .ok (.iload 4, 2) := by decide +kernel
theorem dX0_lieUnder_100 : decode cX0_lieUnder 100 = .ok (.putfield 22, 3) := by decide +kernel
theorem dX0_lieUnder_103 : decode cX0_lieUnder 103 = .ok (.aload_n 0, 1) := by decide +kernel
theorem dX0_lieUnder_104 : decode cX0_lieUnder 104 = .ok (.invokevirtual 52, 3) := by decide +kernel
theorem dX0_lieUnder_107 : decode cX0_lieUnder 107 = .ok (.return_, 1) := by decide +kernel
theorem dX0_spread_0 : decode cX0_spread 0 = .ok (.iconst 0, 1) := by decide +kernel
theorem dX0_spread_1 : decode cX0_spread 1 = .ok (.istore_n 1, 1) := by decide +kernel
theorem dX0_spread_2 : decode cX0_spread 2 = .ok (.iload_n 1, 1) := by decide +kernel
theorem dX0_spread_3 : decode cX0_spread 3 = .ok (.bipush 6, 2) := by decide +kernel
theorem dX0_spread_5 : decode cX0_spread 5 = .ok (.if_icmp .ge 95, 3) := by decide +kernel
theorem dX0_spread_8 : decode cX0_spread 8 = .ok (.aload_n 0, 1) := by decide +kernel
theorem dX0_spread_9 : decode cX0_spread 9 = .ok (.getfield 28, 3) := by decide +kernel
theorem dX0_spread_12 : decode cX0_spread 12 = .ok (.iload_n 1, 1) := by decide +kernel
theorem dX0_spread_13 : decode cX0_spread 13 = .ok (.aload_n 0, 1) := by decide +kernel
theorem dX0_spread_14 : decode cX0_spread 14 = .ok (.getfield 48, 3) := by decide +kernel
theorem dX0_spread_17 : decode cX0_spread 17 = .ok (.iconst 0, 1) := by decide +kernel
theorem dX0_spread_18 : decode cX0_spread 18 = .ok (.iload_n 1, 1) := by decide +kernel
theorem dX0_spread_19 : decode cX0_spread 19 = .ok (.iconst 0, 1) := by decide +kernel
theorem dX0_spread_20 : decode cX0_spread 20 = .ok (.invokevirtual 67, 3) := by decide +kernel
theorem dX0_spread_23 : decode cX0_spread 23 = .ok (.iastore, 1) := by decide +kernel
theorem dX0_spread_24 : decode cX0_spread 24 = .ok (.aload_n 0, 1) := by decide +kernel
theorem dX0_spread_25 : decode cX0_spread 25 = .ok (.getfield 32, 3) := by decide +kernel
theorem dX0_spread_28 : decode cX0_spread 28 = .ok (.iload_n 1, 1) := by decide +kernel
theorem dX0_spread_29 : decode cX0_spread 29 = .ok (.aload_n 0, 1) := by decide +kernel
theorem dX0_spread_30 : decode cX0_spread 30 = .ok (.getfield 22, 3) := by decide +kernel
theorem dX0_spread_33 : decode cX0_spread 33 = .ok (.ifCond .eq 7, 3) := by decide +kernel
theorem dX0_spread_36 : decode cX0_spread 36 = .ok (.iconst 0, 1) := by decide +kernel
theorem dX0_spread_37 : decode cX0_spread 37 = .ok (.goto 13, 3) := by decide +kernel
theorem dX0_spread_40 : decode cX0_spread 40 = .ok (.aload_n 0, 1) := by decide +kernel
theorem dX0_spread_41 : decode cX0_spread 41 = .ok (.getfield 48, 3) := by decide +kernel
theorem dX0_spread_44 : decode cX0_spread 44 = .ok (.iconst 0, 1) := by decide +kernel
theorem dX0_spread_45 : decode cX0_spread 45 = .ok (.iload_n 1, 1) := by decide +kernel
theorem dX0_spread_46 : decode cX0_spread 46 = .ok (.iconst 1, 1) := by decide +kernel
theorem dX0_spread_47 : decode cX0_spread 47 = .ok (.invokevirtual 67, 3) := by decide +kernel
theorem dX0_spread_50 : decode cX0_spread 50 = .ok (.iastore, 1) := by decide +kernel
theorem dX0_spread_51 : decode cX0_spread 51 = .ok (.aload_n 0, 1) := by decide +kernel
theorem dX0_spread_52 : decode cX0_spread 52 = .ok (.getfield 35, 3) := by decide +kernel
theorem dX0_spread_55 : decode cX0_spread 55 = .ok (.iload_n 1, 1) := by decide +kernel
theorem dX0_spread_56 : decode cX0_spread 56 = .ok (.aload_n 0, 1) := by decide +kernel
theorem dX0_spread_57 : decode cX0_spread 57 = .ok (.getfield 18, 3) := by decide +kernel
theorem dX0_spread_60 : decode cX0_spread 60 = .ok (.ifCond .eq 7, 3) := by decide +kernel
theorem dX0_spread_63 : decode cX0_spread 63 = .ok (.iconst 1, 1) := by decide +kernel
theorem dX0_spread_64 : decode cX0_spread 64 = .ok (.goto 13, 3) := by decide +kernel
theorem dX0_spread_67 : decode cX0_spread 67 = .ok (.aload_n 0, 1) := by decide +kernel
theorem dX0_spread_68 : decode cX0_spread 68 = .ok (.getfield 48, 3) := by decide +kernel
theorem dX0_spread_71 : decode cX0_spread 71 = .ok (.iconst 0, 1) := by decide +kernel
theorem dX0_spread_72 : decode cX0_spread 72 = .ok (.iload_n 1, 1) := by decide +kernel
theorem dX0_spread_73 : decode cX0_spread 73 = .ok (.iconst 3, 1) := by decide +kernel
theorem dX0_spread_74 : decode cX0_spread 74 = .ok (.invokevirtual 67, 3) := by decide +kernel
theorem dX0_spread_77 : decode cX0_spread 77 = .ok (.iastore, 1) := by decide +kernel
theorem dX0_spread_78 : decode cX0_spread 78 = .ok (.aload_n 0, 1) := by decide +kernel
theorem dX0_spread_79 : decode cX0_spread 79 = .ok (.getfield 38, 3) := by decide +kernel
theorem dX0_spread_82 : decode cX0_spread 82 = .ok (.iload_n 1, 1) := by decide +kernel
theorem dX0_spread_83 : decode cX0_spread 83 = .ok (.aload_n 0, 1) := by decide +kernel
theorem dX0_spread_84 : decode cX0_spread 84 = .ok (.getfield 48, 3) := by decide +kernel
theorem dX0_spread_87 : decode cX0_spread 87 = .ok (.iconst 0, 1) := by decide +kernel
theorem dX0_spread_88 : decode cX0_spread 88 = .ok (.iload_n 1, 1) := by decide +kernel
theorem dX0_spread_89 : decode cX0_spread 89 = .ok (.iconst 2, 1) := by decide +kernel
theorem dX0_spread_90 : decode cX0_spread 90 = .ok (.invokevirtual 67, 3) := by decide +kernel
theorem dX0_spread_93 : decode cX0_spread 93 = .ok (.iastore, 1) := by decide +kernel
theorem dX0_spread_94 : decode cX0_spread 94 = .ok (.iinc 1 1, 3) := by decide +kernel
theorem dX0_spread_97 : decode cX0_spread 97 = .ok (.goto (-95), 3) := by decide +kernel
theorem dX0_spread_100 : decode cX0_spread 100 = .ok (.aload_n 0, 1) := by decide +kernel
theorem dX0_spread_101 : decode cX0_spread 101 = .ok (.dup, 1) := by decide +kernel
theorem dX0_spread_102 : decode cX0_spread 102 = .ok (.getfield 25, 3) := by decide +kernel
theorem dX0_spread_105 : decode cX0_spread 105 = .ok (.iconst 1, 1) := by decide +kernel
theorem dX0_spread_106 : decode cX0_spread 106 = .ok (.iadd, 1) := by decide +kernel
theorem dX0_spread_107 : decode cX0_spread 107 = .ok (.putfield 25, 3) := by decide +kernel
theorem dX0_spread_110 : decode cX0_spread 110 = .ok (.return_, 1) := by decide +kernel
theorem dX0_stepsOf_0 : decode cX0_stepsOf 0 = .ok (.iload_n 1, 1) := by decide +kernel
theorem dX0_stepsOf_1 : decode cX0_stepsOf 1 = .ok (.ifCond .lt 18, 3) := by decide +kernel
theorem dX0_stepsOf_4 : decode cX0_stepsOf 4 = .ok (.iload_n 1, 1) := by decide +kernel
theorem dX0_stepsOf_5 : decode cX0_stepsOf 5 = .ok (.bipush 6, 2) := by decide +kernel
theorem dX0_stepsOf_7 : decode cX0_stepsOf 7 = .ok (.if_icmp .ge 12, 3) := by decide +kernel
theorem dX0_stepsOf_10 : decode cX0_stepsOf 10 = .ok (.aload_n 0, 1) := by decide +kernel
theorem dX0_stepsOf_11 : decode cX0_stepsOf 11 = .ok (.getfield 28, 3) := by decide +kernel
theorem dX0_stepsOf_14 : decode cX0_stepsOf 14 = .ok (.iload_n 1, 1) := by decide +kernel
theorem dX0_stepsOf_15 : decode cX0_stepsOf 15 = .ok (.iaload, 1) := by decide +kernel
theorem dX0_stepsOf_16 : decode cX0_stepsOf 16 = .ok (.goto 4, 3) := by decide +kernel
theorem dX0_stepsOf_19 : decode cX0_stepsOf 19 = .ok (.iconst 0, 1) := by decide +kernel
theorem dX0_stepsOf_20 : decode cX0_stepsOf 20 = .ok (.ireturn, 1) := by decide +kernel
theorem dX0_give_0 : decode cX0_give 0 = .ok (.iload_n 1, 1) := by decide +kernel
theorem dX0_give_1 : decode cX0_give 1 = .ok (.ifCond .lt 9, 3) := by decide +kernel
theorem dX0_give_4 : decode cX0_give 4 = .ok (.iload_n 1, 1) := by decide +kernel
theorem dX0_give_5 : decode cX0_give 5 = .ok (.bipush 6, 2) := by decide +kernel
theorem dX0_give_7 : decode cX0_give 7 = .ok (.if_icmp .lt 4, 3) := by decide +kernel
theorem dX0_give_10 : decode cX0_give 10 = .ok (.return_, 1) := by decide +kernel
theorem dX0_give_11 : decode cX0_give 11 = .ok (.aload_n 0, 1) := by decide +kernel
theorem dX0_give_12 : decode cX0_give 12 = .ok (.getfield 48, 3) := by decide +kernel
theorem dX0_give_15 : decode cX0_give 15 = .ok (.getfield 55, 3) := by decide +kernel
theorem dX0_give_18 : decode cX0_give 18 = .ok (.getfield 71, 3) := by decide +kernel
theorem dX0_give_21 : decode cX0_give 21 = .ok (.astore 5, 2) := by decide +kernel
theorem dX0_give_23 : decode cX0_give 23 = .ok (.aload 5, 2) := by decide +kernel
theorem dX0_give_25 : decode cX0_give 25 = .ok (.iconst 0, 1) := by decide +kernel
theorem dX0_give_26 : decode cX0_give 26 = .ok (.iload_n 2, 1) := by decide +kernel
theorem dX0_give_27 : decode cX0_give 27 = .ok (.i2l, 1) := by decide +kernel
theorem dX0_give_28 : decode cX0_give 28 = .ok (.lastore, 1) := by decide +kernel
theorem dX0_give_29 : decode cX0_give 29 = .ok (.aload 5, 2) := by decide +kernel
theorem dX0_give_31 : decode cX0_give 31 = .ok (.iconst 1, 1) := by decide +kernel
theorem dX0_give_32 : decode cX0_give 32 = .ok (.aload_n 0, 1) := by decide +kernel
theorem dX0_give_33 : decode cX0_give 33 = .ok (.getfield 32, 3) := by decide +kernel
theorem dX0_give_36 : decode cX0_give 36 = .ok (.iload_n 1, 1) := by decide +kernel
theorem dX0_give_37 : decode cX0_give 37 = .ok (.iaload, 1) := by decide +kernel
theorem dX0_give_38 : decode cX0_give 38 = .ok (.i2l, 1) := by decide +kernel
theorem dX0_give_39 : decode cX0_give 39 = .ok (.lastore, 1) := by decide +kernel
theorem dX0_give_40 : decode cX0_give 40 = .ok (.aload 5, 2) := by decide +kernel
theorem dX0_give_42 : decode cX0_give 42 = .ok (.iconst 2, 1) := by decide +kernel
theorem dX0_give_43 : decode cX0_give 43 = .ok (.aload_n 0, 1) := by decide +kernel
theorem dX0_give_44 : decode cX0_give 44 = .ok (.getfield 15, 3) := by decide +kernel
theorem dX0_give_47 : decode cX0_give 47 = .ok (.i2l, 1) := by decide +kernel
theorem dX0_give_48 : decode cX0_give 48 = .ok (.lastore, 1) := by decide +kernel
theorem dX0_give_49 : decode cX0_give 49 = .ok (.aload 5, 2) := by decide +kernel
theorem dX0_give_51 : decode cX0_give 51 = .ok (.iconst 3, 1) := by decide +kernel
theorem dX0_give_52 : decode cX0_give 52 = .ok (.aload_n 0, 1) := by decide +kernel
theorem dX0_give_53 : decode cX0_give 53 = .ok (.getfield 9, 3) := by decide +kernel
theorem dX0_give_56 : decode cX0_give 56 = .ok (.i2l, 1) := by decide +kernel
theorem dX0_give_57 : decode cX0_give 57 = .ok (.lastore, 1) := by decide +kernel
theorem dX0_give_58 : decode cX0_give 58 = .ok (.aload 5, 2) := by decide +kernel
theorem dX0_give_60 : decode cX0_give 60 = .ok (.iconst 4, 1) := by decide +kernel
theorem dX0_give_61 : decode cX0_give 61 = .ok (.iload_n 3, 1) := by decide +kernel
theorem dX0_give_62 : decode cX0_give 62 = .ok (.i2l, 1) := by decide +kernel
theorem dX0_give_63 : decode cX0_give 63 = .ok (.lastore, 1) := by decide +kernel
theorem dX0_give_64 : decode cX0_give 64 = .ok (.aload 5, 2) := by decide +kernel
theorem dX0_give_66 : decode cX0_give 66 = .ok (.iconst 5, 1) := by decide +kernel
theorem dX0_give_67 : decode cX0_give 67 = .ok (.iload 4, 2) := by decide +kernel
theorem dX0_give_69 : decode cX0_give 69 = .ok (.i2l, 1) := by decide +kernel
theorem dX0_give_70 : decode cX0_give 70 = .ok (.lastore, 1) := by decide +kernel
theorem dX0_give_71 : decode cX0_give 71 = .ok (.aload 5, 2) := by decide +kernel
theorem dX0_give_73 : decode cX0_give 73 = .ok (.bipush 6, 2) := by decide +kernel
theorem dX0_give_75 : decode cX0_give 75 = .ok (.aload_n 0, 1) := by decide +kernel
theorem dX0_give_76 : decode cX0_give 76 = .ok (.getfield 35, 3) := by decide +kernel
theorem dX0_give_79 : decode cX0_give 79 = .ok (.iload_n 1, 1) := by decide +kernel
theorem dX0_give_80 : decode cX0_give 80 = .ok (.iaload, 1) := by decide +kernel
theorem dX0_give_81 : decode cX0_give 81 = .ok (.i2l, 1) := by decide +kernel
theorem dX0_give_82 : decode cX0_give 82 = .ok (.lastore, 1) := by decide +kernel
theorem dX0_give_83 : decode cX0_give 83 = .ok (.aload 5, 2) := by decide +kernel
theorem dX0_give_85 : decode cX0_give 85 = .ok (.bipush 7, 2) := by decide +kernel
theorem dX0_give_87 : decode cX0_give 87 = .ok (.aload_n 0, 1) := by decide +kernel
theorem dX0_give_88 : decode cX0_give 88 = .ok (.getfield 38, 3) := by decide +kernel
theorem dX0_give_91 : decode cX0_give 91 = .ok (.iload_n 1, 1) := by decide +kernel
theorem dX0_give_92 : decode cX0_give 92 = .ok (.iaload, 1) := by decide +kernel
theorem dX0_give_93 : decode cX0_give 93 = .ok (.i2l, 1) := by decide +kernel
theorem dX0_give_94 : decode cX0_give 94 = .ok (.lastore, 1) := by decide +kernel
theorem dX0_give_95 : decode cX0_give 95 = .ok (.return_, 1) := by decide +kernel
theorem dX0_taken_0 : decode cX0_taken 0 = .ok (.aload_n 0, 1) := by decide +kernel
theorem dX0_taken_1 : decode cX0_taken 1 = .ok (.getfield 48, 3) := by decide +kernel
theorem dX0_taken_4 : decode cX0_taken 4 = .ok (.getfield 55, 3) := by decide +kernel
theorem dX0_taken_7 : decode cX0_taken 7 = .ok (.astore 5, 2) := by decide +kernel
theorem dX0_taken_9 : decode cX0_taken 9 = .ok (.aload 5, 2) := by decide +kernel
theorem dX0_taken_11 : decode cX0_taken 11 = .ok (.getfield 61, 3) := by decide +kernel
theorem dX0_taken_14 : decode cX0_taken 14 = .ok (.iconst 4, 1) := by decide +kernel
theorem dX0_taken_15 : decode cX0_taken 15 = .ok (.baload, 1) := by decide +kernel
theorem dX0_taken_16 : decode cX0_taken 16 = .ok (.ifCond .eq 7, 3) := by decide +kernel
theorem dX0_taken_19 : decode cX0_taken 19 = .ok (.iload_n 3, 1) := by decide +kernel
theorem dX0_taken_20 : decode cX0_taken 20 = .ok (.goto 4, 3) := by decide +kernel
theorem dX0_taken_23 : decode cX0_taken 23 = .ok (.iconst 0, 1) := by decide +kernel
theorem dX0_taken_24 : decode cX0_taken 24 = .ok (.istore 6, 2) := by decide +kernel
theorem dX0_taken_26 : decode cX0_taken 26 = .ok (.aload 5, 2) := by decide +kernel
theorem dX0_taken_28 : decode cX0_taken 28 = .ok (.getfield 61, 3) := by decide +kernel
theorem dX0_taken_31 : decode cX0_taken 31 = .ok (.iconst 5, 1) := by decide +kernel
theorem dX0_taken_32 : decode cX0_taken 32 = .ok (.baload, 1) := by decide +kernel
theorem dX0_taken_33 : decode cX0_taken 33 = .ok (.ifCond .eq 8, 3) := by decide +kernel
theorem dX0_taken_36 : decode cX0_taken 36 = .ok (.iload 4, 2) := by decide +kernel
theorem dX0_taken_38 : decode cX0_taken 38 = .ok (.goto 4, 3) := by decide +kernel
theorem dX0_taken_41 : decode cX0_taken 41 = .ok (.iconst 0, 1) := by decide +kernel
theorem dX0_taken_42 : decode cX0_taken 42 = .ok (.istore 7, 2) := by decide +kernel
theorem dX0_taken_44 : decode cX0_taken 44 = .ok (.aload_n 0, 1) := by decide +kernel
theorem dX0_taken_45 : decode cX0_taken 45 = .ok (.getfield 25, 3) := by decide +kernel
theorem dX0_taken_48 : decode cX0_taken 48 = .ok (.i2l, 1) := by decide +kernel
theorem dX0_taken_49 : decode cX0_taken 49 = .ok (.ldc2_w 74, 3) := by decide +kernel
theorem dX0_taken_52 : decode cX0_taken 52 = .ok (.lmul, 1) := by decide +kernel
theorem dX0_taken_53 : decode cX0_taken 53 = .ok (.iload_n 1, 1) := by decide +kernel
theorem dX0_taken_54 : decode cX0_taken 54 = .ok (.i2l, 1) := by decide +kernel
theorem dX0_taken_55 : decode cX0_taken 55 = .ok (.ladd, 1) := by decide +kernel
theorem dX0_taken_56 : decode cX0_taken 56 = .ok (.ldc2_w 76, 3) := by decide +kernel
theorem dX0_taken_59 : decode cX0_taken 59 = .ok (.lmul, 1) := by decide +kernel
theorem dX0_taken_60 : decode cX0_taken 60 = .ok (.iload_n 2, 1) := by decide +kernel
theorem dX0_taken_61 : decode cX0_taken 61 = .ok (.i2l, 1) := by decide +kernel
theorem dX0_taken_62 : decode cX0_taken 62 = .ok (.ladd, 1) := by decide +kernel
theorem dX0_taken_63 : decode cX0_taken 63 = .ok (.ldc2_w 78, 3) := by decide +kernel
theorem dX0_taken_66 : decode cX0_taken 66 = .ok (.lmul, 1) := by decide +kernel
theorem dX0_taken_67 : decode cX0_taken 67 = .ok (.iload 6, 2) := by decide +kernel
theorem dX0_taken_69 : decode cX0_taken 69 = .ok (.i2l, 1) := by decide +kernel
theorem dX0_taken_70 : decode cX0_taken 70 = .ok (.ladd, 1) := by decide +kernel
theorem dX0_taken_71 : decode cX0_taken 71 = .ok (.ldc2_w 80, 3) := by decide +kernel
theorem dX0_taken_74 : decode cX0_taken 74 = .ok (.lmul, 1) := by decide +kernel
theorem dX0_taken_75 : decode cX0_taken 75 = .ok (.iload 7, 2) := by decide +kernel
theorem dX0_taken_77 : decode cX0_taken 77 = .ok (.i2l, 1) := by decide +kernel
theorem dX0_taken_78 : decode cX0_taken 78 = .ok (.ladd, 1) := by decide +kernel
theorem dX0_taken_79 : decode cX0_taken 79 = .ok (.lstore 8, 2) := by decide +kernel
theorem dX0_taken_81 : decode cX0_taken 81 = .ok (.lload 8, 2) := by decide +kernel
theorem dX0_taken_83 : decode cX0_taken 83 = .ok (.ldc2_w 82, 3) := by decide +kernel
theorem dX0_taken_86 : decode cX0_taken 86 = .ok (.land, 1) := by decide +kernel
theorem dX0_taken_87 : decode cX0_taken 87 = .ok (.l2i, 1) := by decide +kernel
theorem dX0_taken_88 : decode cX0_taken 88 = .ok (.istore 10, 2) := by decide +kernel
theorem dX0_taken_90 : decode cX0_taken 90 = .ok (.aload_n 0, 1) := by decide +kernel
theorem dX0_taken_91 : decode cX0_taken 91 = .ok (.getfield 41, 3) := by decide +kernel
theorem dX0_taken_94 : decode cX0_taken 94 = .ok (.iload 10, 2) := by decide +kernel
theorem dX0_taken_96 : decode cX0_taken 96 = .ok (.laload, 1) := by decide +kernel
theorem dX0_taken_97 : decode cX0_taken 97 = .ok (.lload 8, 2) := by decide +kernel
theorem dX0_taken_99 : decode cX0_taken 99 = .ok (.lcmp, 1) := by decide +kernel
theorem dX0_taken_100 : decode cX0_taken 100 = .ok (.ifCond .eq 94, 3) := by decide +kernel
theorem dX0_taken_103 : decode cX0_taken 103 = .ok (.aload_n 0, 1) := by decide +kernel
theorem dX0_taken_104 : decode cX0_taken 104 = .ok (.iload_n 1, 1) := by decide +kernel
theorem dX0_taken_105 : decode cX0_taken 105 = .ok (.iload_n 2, 1) := by decide +kernel
theorem dX0_taken_106 : decode cX0_taken 106 = .ok (.iload_n 3, 1) := by decide +kernel
theorem dX0_taken_107 : decode cX0_taken 107 = .ok (.iload 4, 2) := by decide +kernel
theorem dX0_taken_109 : decode cX0_taken 109 = .ok (.invokevirtual 84, 3) := by decide +kernel
theorem dX0_taken_112 : decode cX0_taken 112 = .ok (.aload 5, 2) := by decide +kernel
theorem dX0_taken_114 : decode cX0_taken 114 = .ok (.iconst 0, 1) := by decide +kernel
theorem dX0_taken_115 : decode cX0_taken 115 = .ok (.iconst 1, 1) := by decide +kernel
theorem dX0_taken_116 : decode cX0_taken 116 = .ok (.bipush 99, 2) := by decide +kernel
theorem dX0_taken_118 : decode cX0_taken 118 = .ok (.bipush 10, 2) := by decide +kernel
theorem dX0_taken_120 : decode cX0_taken 120 = .ok (.iload_n 2, 1) := by decide +kernel
theorem dX0_taken_121 : decode cX0_taken 121 = .ok (.isub, 1) := by decide +kernel
theorem dX0_taken_122 : decode cX0_taken 122 = .ok (.invokevirtual 88, 3) := by decide +kernel
theorem dX0_taken_125 : decode cX0_taken 125 = .ok (.istore 11, 2) := by decide +kernel
theorem dX0_taken_127 : decode cX0_taken 127 = .ok (.aload 5, 2) := by decide +kernel
theorem dX0_taken_129 : decode cX0_taken 129 = .ok (.iconst 1, 1) := by decide +kernel
theorem dX0_taken_130 : decode cX0_taken 130 = .ok (.bipush (-20), 2) := by decide +kernel
theorem dX0_taken_132 : decode cX0_taken 132 = .ok (.bipush 20, 2) := by decide +kernel
theorem dX0_taken_134 : decode cX0_taken 134 = .ok (.iload_n 2, 1) := by decide +kernel
theorem dX0_taken_135 : decode cX0_taken 135 = .ok (.aload_n 0, 1) := by decide +kernel
theorem dX0_taken_136 : decode cX0_taken 136 = .ok (.getfield 32, 3) := by decide +kernel
theorem dX0_taken_139 : decode cX0_taken 139 = .ok (.iload_n 1, 1) := by decide +kernel
theorem dX0_taken_140 : decode cX0_taken 140 = .ok (.iaload, 1) := by decide +kernel
theorem dX0_taken_141 : decode cX0_taken 141 = .ok (.iadd, 1) := by decide +kernel
theorem dX0_taken_142 : decode cX0_taken 142 = .ok (.iconst 4, 1) := by decide +kernel
theorem dX0_taken_143 : decode cX0_taken 143 = .ok (.isub, 1) := by decide +kernel
theorem dX0_taken_144 : decode cX0_taken 144 = .ok (.invokevirtual 88, 3) := by decide +kernel
theorem dX0_taken_147 : decode cX0_taken 147 = .ok (.istore 12, 2) := by decide +kernel
theorem dX0_taken_149 : decode cX0_taken 149 = .ok (.aload 5, 2) := by decide +kernel
theorem dX0_taken_151 : decode cX0_taken 151 = .ok (.iconst 2, 1) := by decide +kernel
theorem dX0_taken_152 : decode cX0_taken 152 = .ok (.iconst 0, 1) := by decide +kernel
theorem dX0_taken_153 : decode cX0_taken 153 = .ok (.bipush 20, 2) := by decide +kernel
theorem dX0_taken_155 : decode cX0_taken 155 = .ok (.iconst 0, 1) := by decide +kernel
theorem dX0_taken_156 : decode cX0_taken 156 = .ok (.invokevirtual 88, 3) := by decide +kernel
theorem dX0_taken_159 : decode cX0_taken 159 = .ok (.istore 13, 2) := by decide +kernel
theorem dX0_taken_161 : decode cX0_taken 161 = .ok (.aload_n 0, 1) := by decide +kernel
theorem dX0_taken_162 : decode cX0_taken 162 = .ok (.getfield 41, 3) := by decide +kernel
theorem dX0_taken_165 : decode cX0_taken 165 = .ok (.iload 10, 2) := by decide +kernel
theorem dX0_taken_167 : decode cX0_taken 167 = .ok (.lload 8, 2) := by decide +kernel
theorem dX0_taken_169 : decode cX0_taken 169 = .ok (.lastore, 1) := by decide +kernel
theorem dX0_taken_170 : decode cX0_taken 170 = .ok (.aload_n 0, 1) := by decide +kernel
theorem dX0_taken_171 : decode cX0_taken 171 = .ok (.getfield 45, 3) := by decide +kernel
theorem dX0_taken_174 : decode cX0_taken 174 = .ok (.iload 10, 2) := by decide +kernel
theorem dX0_taken_176 : decode cX0_taken 176 = .ok (.iload 11, 2) := by decide +kernel
theorem dX0_taken_178 : decode cX0_taken 178 = .ok (.iload 12, 2) := by decide +kernel
theorem dX0_taken_180 : decode cX0_taken 180 = .ok (.bipush 20, 2) := by decide +kernel
theorem dX0_taken_182 : decode cX0_taken 182 = .ok (.iadd, 1) := by decide +kernel
theorem dX0_taken_183 : decode cX0_taken 183 = .ok (.bipush 7, 2) := by decide +kernel
theorem dX0_taken_185 : decode cX0_taken 185 = .ok (.ishl, 1) := by decide +kernel
theorem dX0_taken_186 : decode cX0_taken 186 = .ok (.ior, 1) := by decide +kernel
theorem dX0_taken_187 : decode cX0_taken 187 = .ok (.iload 13, 2) := by decide +kernel
theorem dX0_taken_189 : decode cX0_taken 189 = .ok (.bipush 13, 2) := by decide +kernel
theorem dX0_taken_191 : decode cX0_taken 191 = .ok (.ishl, 1) := by decide +kernel
theorem dX0_taken_192 : decode cX0_taken 192 = .ok (.ior, 1) := by decide +kernel
theorem dX0_taken_193 : decode cX0_taken 193 = .ok (.iastore, 1) := by decide +kernel
theorem dX0_taken_194 : decode cX0_taken 194 = .ok (.aload_n 0, 1) := by decide +kernel
theorem dX0_taken_195 : decode cX0_taken 195 = .ok (.getfield 45, 3) := by decide +kernel
theorem dX0_taken_198 : decode cX0_taken 198 = .ok (.iload 10, 2) := by decide +kernel
theorem dX0_taken_200 : decode cX0_taken 200 = .ok (.iaload, 1) := by decide +kernel
theorem dX0_taken_201 : decode cX0_taken 201 = .ok (.ireturn, 1) := by decide +kernel
theorem dX1_init_0 : decode cX1_init 0 = .ok (.aload_n 0, 1) := by decide +kernel
theorem dX1_init_1 : decode cX1_init 1 = .ok (.invokespecial 3, 3) := by decide +kernel
theorem dX1_init_4 : decode cX1_init 4 = .ok (.aload_n 0, 1) := by decide +kernel
theorem dX1_init_5 : decode cX1_init 5 = .ok (.bipush 64, 2) := by decide +kernel
theorem dX1_init_7 : decode cX1_init 7 = .ok (.newarray .int, 2) := by decide +kernel
theorem dX1_init_9 : decode cX1_init 9 = .ok (.putfield 11, 3) := by decide +kernel
theorem dX1_init_12 : decode cX1_init 12 = .ok (.aload_n 0, 1) := by decide +kernel
theorem dX1_init_13 : decode cX1_init 13 = .ok (.bipush 64, 2) := by decide +kernel
theorem dX1_init_15 : decode cX1_init 15 = .ok (.newarray .int, 2) := by decide +kernel
theorem dX1_init_17 : decode cX1_init 17 = .ok (.putfield 15, 3) := by decide +kernel
theorem dX1_init_20 : decode cX1_init 20 = .ok (.aload_n 0, 1) := by decide +kernel
theorem dX1_init_21 : decode cX1_init 21 = .ok (.iconst 0, 1) := by decide +kernel
theorem dX1_init_22 : decode cX1_init 22 = .ok (.putfield 18, 3) := by decide +kernel
theorem dX1_init_25 : decode cX1_init 25 = .ok (.aload_n 0, 1) := by decide +kernel
theorem dX1_init_26 : decode cX1_init 26 = .ok (.bipush 8, 2) := by decide +kernel
theorem dX1_init_28 : decode cX1_init 28 = .ok (.newarray .int, 2) := by decide +kernel
theorem dX1_init_30 : decode cX1_init 30 = .ok (.putfield 22, 3) := by decide +kernel
theorem dX1_init_33 : decode cX1_init 33 = .ok (.aload_n 0, 1) := by decide +kernel
theorem dX1_init_34 : decode cX1_init 34 = .ok (.bipush 8, 2) := by decide +kernel
theorem dX1_init_36 : decode cX1_init 36 = .ok (.newarray .int, 2) := by decide +kernel
theorem dX1_init_38 : decode cX1_init 38 = .ok (.putfield 25, 3) := by decide +kernel
theorem dX1_init_41 : decode cX1_init 41 = .ok (.aload_n 0, 1) := by decide +kernel
theorem dX1_init_42 : decode cX1_init 42 = .ok (.bipush 64, 2) := by decide +kernel
theorem dX1_init_44 : decode cX1_init 44 = .ok (.newarray .long, 2) := by decide +kernel
theorem dX1_init_46 : decode cX1_init 46 = .ok (.putfield 28, 3) := by decide +kernel
theorem dX1_init_49 : decode cX1_init 49 = .ok (.aload_n 0, 1) := by decide +kernel
theorem dX1_init_50 : decode cX1_init 50 = .ok (.bipush 8, 2) := by decide +kernel
theorem dX1_init_52 : decode cX1_init 52 = .ok (.newarray .long, 2) := by decide +kernel
theorem dX1_init_54 : decode cX1_init 54 = .ok (.putfield 32, 3) := by decide +kernel
theorem dX1_init_57 : decode cX1_init 57 = .ok (.aload_n 0, 1) := by decide +kernel
theorem dX1_init_58 : decode cX1_init 58 = .ok (.bipush 8, 2) := by decide +kernel
theorem dX1_init_60 : decode cX1_init 60 = .ok (.newarray .boolean, 2) := by decide +kernel
theorem dX1_init_62 : decode cX1_init 62 = .ok (.putfield 35, 3) := by decide +kernel
theorem dX1_init_65 : decode cX1_init 65 = .ok (.aload_n 0, 1) := by decide +kernel
theorem dX1_init_66 : decode cX1_init 66 = .ok (.iconst 0, 1) := by decide +kernel
theorem dX1_init_67 : decode cX1_init 67 = .ok (.putfield 39, 3) := by decide +kernel
theorem dX1_init_70 : decode cX1_init 70 = .ok (.return_, 1) := by decide +kernel
theorem dX1_clear_0 : decode cX1_clear 0 = .ok (.aload_n 0, 1) := by decide +kernel
theorem dX1_clear_1 : decode cX1_clear 1 = .ok (.iconst 0, 1) := by decide +kernel
theorem dX1_clear_2 : decode cX1_clear 2 = .ok (.putfield 18, 3) := by decide +kernel
theorem dX1_clear_5 : decode cX1_clear 5 = .ok (.aload_n 0, 1) := by decide +kernel
theorem dX1_clear_6 : decode cX1_clear 6 = .ok (.iconst 0, 1) := by decide +kernel
theorem dX1_clear_7 : decode cX1_clear 7 = .ok (.putfield 39, 3) := by decide +kernel
theorem dX1_clear_10 : decode cX1_clear 10 = .ok (.iconst 0, 1) := by decide +kernel
theorem dX1_clear_11 : decode cX1_clear 11 = .ok (.istore_n 1, 1) := by decide +kernel
theorem dX1_clear_12 : decode cX1_clear 12 = .ok (.iload_n 1, 1) := by decide +kernel
theorem dX1_clear_13 : decode cX1_clear 13 = .ok (.bipush 8, 2) := by decide +kernel
theorem dX1_clear_15 : decode cX1_clear 15 = .ok (.if_icmp .ge 23, 3) := by decide +kernel
theorem dX1_clear_18 : decode cX1_clear 18 = .ok (.aload_n 0, 1) := by decide +kernel
theorem dX1_clear_19 : decode cX1_clear 19 = .ok (.getfield 22, 3) := by decide +kernel
theorem dX1_clear_22 : decode cX1_clear 22 = .ok (.iload_n 1, 1) := by decide +kernel
theorem dX1_clear_23 : decode cX1_clear 23 = .ok (.iconst 0, 1) := by decide +kernel
theorem dX1_clear_24 : decode cX1_clear 24 = .ok (.iastore, 1) := by decide +kernel
theorem dX1_clear_25 : decode cX1_clear 25 = .ok (.aload_n 0, 1) := by decide +kernel
theorem dX1_clear_26 : decode cX1_clear 26 = .ok (.getfield 25, 3) := by decide +kernel
theorem dX1_clear_29 : decode cX1_clear 29 = .ok (.iload_n 1, 1) := by decide +kernel
theorem dX1_clear_30 : decode cX1_clear 30 = .ok (.iconst 0, 1) := by decide +kernel
theorem dX1_clear_31 : decode cX1_clear 31 = .ok (.iastore, 1) := by decide +kernel
theorem dX1_clear_32 : decode cX1_clear 32 = .ok (.iinc 1 1, 3) := by decide +kernel
theorem dX1_clear_35 : decode cX1_clear 35 = .ok (.goto (-23), 3) := by decide +kernel
theorem dX1_clear_38 : decode cX1_clear 38 = .ok (.iconst 0, 1) := by decide +kernel
theorem dX1_clear_39 : decode cX1_clear 39 = .ok (.istore_n 1, 1) := by decide +kernel
theorem dX1_clear_40 : decode cX1_clear 40 = .ok (.iload_n 1, 1) := by decide +kernel
theorem dX1_clear_41 : decode cX1_clear 41 = .ok (.bipush 8, 2) := by decide +kernel
theorem dX1_clear_43 : decode cX1_clear 43 = .ok (.if_icmp .ge 16, 3) := by decide +kernel
theorem dX1_clear_46 : decode cX1_clear 46 = .ok (.aload_n 0, 1) := by decide +kernel
theorem dX1_clear_47 : decode cX1_clear 47 = .ok (.getfield 35, 3) := by decide +kernel
theorem dX1_clear_50 : decode cX1_clear 50 = .ok (.iload_n 1, 1) := by decide +kernel
theorem dX1_clear_51 : decode cX1_clear 51 = .ok (.iconst 0, 1) := by decide +kernel
theorem dX1_clear_52 : decode cX1_clear 52 = .ok (.bastore, 1) := by decide +kernel
theorem dX1_clear_53 : decode cX1_clear 53 = .ok (.iinc 1 1, 3) := by decide +kernel
theorem dX1_clear_56 : decode cX1_clear 56 = .ok (.goto (-16), 3) := by decide +kernel
theorem dX1_clear_59 : decode cX1_clear 59 = .ok (.return_, 1) := by decide +kernel
theorem dX1_has_0 : decode cX1_has 0 = .ok (.iload_n 1, 1) := by decide +kernel
theorem dX1_has_1 : decode cX1_has 1 = .ok (.ifCond .lt 28, 3) := by decide +kernel
theorem dX1_has_4 : decode cX1_has 4 = .ok (.iload_n 1, 1) := by decide +kernel
theorem dX1_has_5 : decode cX1_has 5 = .ok (.bipush 8, 2) := by decide +kernel
theorem dX1_has_7 : decode cX1_has 7 = .ok (.if_icmp .ge 22, 3) := by decide +kernel
theorem dX1_has_10 : decode cX1_has 10 = .ok (.aload_n 0, 1) := by decide +kernel
theorem dX1_has_11 : decode cX1_has 11 = .ok (.getfield 25, 3) := by decide +kernel
theorem dX1_has_14 : decode cX1_has 14 = .ok (.iload_n 1, 1) := by decide +kernel
theorem dX1_has_15 : decode cX1_has 15 = .ok (.iaload, 1) := by decide +kernel
theorem dX1_has_16 : decode cX1_has 16 = .ok (.aload_n 0, 1) := by decide +kernel
theorem dX1_has_17 : decode cX1_has 17 = .ok (.getfield 22, 3) := by decide +kernel
theorem dX1_has_20 : decode cX1_has 20 = .ok (.iload_n 1, 1) := by decide +kernel
theorem dX1_has_21 : decode cX1_has 21 = .ok (.iaload, 1) := by decide +kernel
theorem dX1_has_22 : decode cX1_has 22 = .ok (.if_icmp .le 7, 3) := by decide +kernel
theorem dX1_has_25 : decode cX1_has 25 = .ok (.iconst 1, 1) := by decide +kernel
theorem dX1_has_26 : decode cX1_has 26 = .ok (.goto 4, 3) := by decide +kernel
theorem dX1_has_29 : decode cX1_has 29 = .ok (.iconst 0, 1) := by decide +kernel
theorem dX1_has_30 : decode cX1_has 30 = .ok (.ireturn, 1) := by decide +kernel
theorem dX1_open_0 : decode cX1_open 0 = .ok (.aload_n 0, 1) := by decide +kernel
theorem dX1_open_1 : decode cX1_open 1 = .ok (.getfield 22, 3) := by decide +kernel
theorem dX1_open_4 : decode cX1_open 4 = .ok (.iload_n 1, 1) := by decide +kernel
theorem dX1_open_5 : decode cX1_open 5 = .ok (.aload_n 0, 1) := by decide +kernel
theorem dX1_open_6 : decode cX1_open 6 = .ok (.getfield 18, 3) := by decide +kernel
theorem dX1_open_9 : decode cX1_open 9 = .ok (.iastore, 1) := by decide +kernel
theorem dX1_open_10 : decode cX1_open 10 = .ok (.return_, 1) := by decide +kernel
theorem dX1_close_0 : decode cX1_close 0 = .ok (.aload_n 0, 1) := by decide +kernel
theorem dX1_close_1 : decode cX1_close 1 = .ok (.getfield 25, 3) := by decide +kernel
theorem dX1_close_4 : decode cX1_close 4 = .ok (.iload_n 1, 1) := by decide +kernel
theorem dX1_close_5 : decode cX1_close 5 = .ok (.aload_n 0, 1) := by decide +kernel
theorem dX1_close_6 : decode cX1_close 6 = .ok (.getfield 18, 3) := by decide +kernel
theorem dX1_close_9 : decode cX1_close 9 = .ok (.iastore, 1) := by decide +kernel
theorem dX1_close_10 : decode cX1_close 10 = .ok (.iconst 1, 1) := by decide +kernel
theorem dX1_close_11 : decode cX1_close 11 = .ok (.ireturn, 1) := by decide +kernel
theorem dX1_countKnot_0 : decode cX1_countKnot 0 = .ok (.aload_n 0, 1) := by decide +kernel
theorem dX1_countKnot_1 : decode cX1_countKnot 1 = .ok (.getfield 39, 3) := by decide +kernel
theorem dX1_countKnot_4 : decode cX1_countKnot 4 = .ok (.bipush 64, 2) := by decide +kernel
theorem dX1_countKnot_6 : decode cX1_countKnot 6 = .ok (.if_icmp .lt 5, 3) := by decide +kernel
theorem dX1_countKnot_9 : decode cX1_countKnot 9 = .ok (.iconst 0, 1) := by decide +kernel
theorem dX1_countKnot_10 : decode cX1_countKnot 10 = .ok (.ireturn, 1) := by decide +kernel
theorem dX1_countKnot_11 : decode cX1_countKnot 11 = .ok (.aload_n 0, 1) := by decide +kernel
theorem dX1_countKnot_12 : decode cX1_countKnot 12 = .ok (.dup, 1) := by decide +kernel
theorem dX1_countKnot_13 : decode cX1_countKnot 13 = .ok (.getfield 39, 3) := by decide +kernel
theorem dX1_countKnot_16 : decode cX1_countKnot 16 = .ok (.iconst 1, 1) := by decide +kernel
theorem dX1_countKnot_17 : decode cX1_countKnot 17 = .ok (.iadd, 1) := by decide +kernel
theorem dX1_countKnot_18 : decode cX1_countKnot 18 = .ok (.putfield 39, 3) := by decide +kernel
theorem dX1_countKnot_21 : decode cX1_countKnot 21 = .ok (.iconst 1, 1) := by decide +kernel
theorem dX1_countKnot_22 : decode cX1_countKnot 22 = .ok (.ireturn, 1) := by decide +kernel
theorem dX1_add_0 : decode cX1_add 0 = .ok (.aload_n 0, 1) := by decide +kernel
theorem dX1_add_1 : decode cX1_add 1 = .ok (.getfield 18, 3) := by decide +kernel
theorem dX1_add_4 : decode cX1_add 4 = .ok (.bipush 64, 2) := by decide +kernel
theorem dX1_add_6 : decode cX1_add 6 = .ok (.if_icmp .lt 4, 3) := by decide +kernel
theorem dX1_add_9 : decode cX1_add 9 = .ok (.return_, 1) := by decide +kernel
theorem dX1_add_10 : decode cX1_add 10 = .ok (.aload_n 0, 1) := by decide +kernel
theorem dX1_add_11 : decode cX1_add 11 = .ok (.getfield 11, 3) := by decide +kernel
theorem dX1_add_14 : decode cX1_add 14 = .ok (.aload_n 0, 1) := by decide +kernel
theorem dX1_add_15 : decode cX1_add 15 = .ok (.getfield 18, 3) := by decide +kernel
theorem dX1_add_18 : decode cX1_add 18 = .ok (.iload_n 1, 1) := by decide +kernel
theorem dX1_add_19 : decode cX1_add 19 = .ok (.iastore, 1) := by decide +kernel
theorem dX1_add_20 : decode cX1_add 20 = .ok (.aload_n 0, 1) := by decide +kernel
theorem dX1_add_21 : decode cX1_add 21 = .ok (.getfield 15, 3) := by decide +kernel
theorem dX1_add_24 : decode cX1_add 24 = .ok (.aload_n 0, 1) := by decide +kernel
theorem dX1_add_25 : decode cX1_add 25 = .ok (.getfield 18, 3) := by decide +kernel
theorem dX1_add_28 : decode cX1_add 28 = .ok (.iload_n 2, 1) := by decide +kernel
theorem dX1_add_29 : decode cX1_add 29 = .ok (.iastore, 1) := by decide +kernel
theorem dX1_add_30 : decode cX1_add 30 = .ok (.aload_n 0, 1) := by decide +kernel
theorem dX1_add_31 : decode cX1_add 31 = .ok (.dup, 1) := by decide +kernel
theorem dX1_add_32 : decode cX1_add 32 = .ok (.getfield 18, 3) := by decide +kernel
theorem dX1_add_35 : decode cX1_add 35 = .ok (.iconst 1, 1) := by decide +kernel
theorem dX1_add_36 : decode cX1_add 36 = .ok (.iadd, 1) := by decide +kernel
theorem dX1_add_37 : decode cX1_add 37 = .ok (.putfield 18, 3) := by decide +kernel
theorem dX1_add_40 : decode cX1_add 40 = .ok (.iload_n 1, 1) := by decide +kernel
theorem dX1_add_41 : decode cX1_add 41 = .ok (.iconst 1, 1) := by decide +kernel
theorem dX1_add_42 : decode cX1_add 42 = .ok (.if_icmp .ne 20, 3) := by decide +kernel
theorem dX1_add_45 : decode cX1_add 45 = .ok (.iload_n 2, 1) := by decide +kernel
theorem dX1_add_46 : decode cX1_add 46 = .ok (.ifCond .lt 16, 3) := by decide +kernel
theorem dX1_add_49 : decode cX1_add 49 = .ok (.iload_n 2, 1) := by decide +kernel
theorem dX1_add_50 : decode cX1_add 50 = .ok (.bipush 8, 2) := by decide +kernel
theorem dX1_add_52 : decode cX1_add 52 = .ok (.if_icmp .ge 10, 3) := by decide +kernel
theorem dX1_add_55 : decode cX1_add 55 = .ok (.aload_n 0, 1) := by decide +kernel
theorem dX1_add_56 : decode cX1_add 56 = .ok (.getfield 35, 3) := by decide +kernel
theorem dX1_add_59 : decode cX1_add 59 = .ok (.iload_n 2, 1) := by decide +kernel
theorem dX1_add_60 : decode cX1_add 60 = .ok (.iconst 1, 1) := by decide +kernel
theorem dX1_add_61 : decode cX1_add 61 = .ok (.bastore, 1) := by decide +kernel
theorem dX1_add_62 : decode cX1_add 62 = .ok (.return_, 1) := by decide +kernel
theorem dX1_worth_0 : decode cX1_worth 0 = .ok (.aload_n 0, 1) := by decide +kernel
theorem dX1_worth_1 : decode cX1_worth 1 = .ok (.iload_n 1, 1) := by decide +kernel
theorem dX1_worth_2 : decode cX1_worth 2 = .ok (.invokevirtual 44, 3) := by decide +kernel
theorem dX1_worth_5 : decode cX1_worth 5 = .ok (.ifCond .ne 7, 3) := by decide +kernel
theorem dX1_worth_8 : decode cX1_worth 8 = .ok (.ldc2_w 48, 3) := by decide +kernel
theorem dX1_worth_11 : decode cX1_worth 11 = .ok (.lreturn, 1) := by decide +kernel
theorem dX1_worth_12 : decode cX1_worth 12 = .ok (.iconst 0, 1) := by decide +kernel
theorem dX1_worth_13 : decode cX1_worth 13 = .ok (.istore_n 2, 1) := by decide +kernel
theorem dX1_worth_14 : decode cX1_worth 14 = .ok (.aload_n 0, 1) := by decide +kernel
theorem dX1_worth_15 : decode cX1_worth 15 = .ok (.getfield 22, 3) := by decide +kernel
theorem dX1_worth_18 : decode cX1_worth 18 = .ok (.iload_n 1, 1) := by decide +kernel
theorem dX1_worth_19 : decode cX1_worth 19 = .ok (.iaload, 1) := by decide +kernel
theorem dX1_worth_20 : decode cX1_worth 20 = .ok (.istore_n 3, 1) := by decide +kernel
theorem dX1_worth_21 : decode cX1_worth 21 = .ok (.iload_n 3, 1) := by decide +kernel
theorem dX1_worth_22 : decode cX1_worth 22 = .ok (.aload_n 0, 1) := by decide +kernel
theorem dX1_worth_23 : decode cX1_worth 23 = .ok (.getfield 25, 3) := by decide +kernel
theorem dX1_worth_26 : decode cX1_worth 26 = .ok (.iload_n 1, 1) := by decide +kernel
theorem dX1_worth_27 : decode cX1_worth 27 = .ok (.iaload, 1) := by decide +kernel
theorem dX1_worth_28 : decode cX1_worth 28 = .ok (.if_icmp .ge 188, 3) := by decide +kernel
theorem dX1_worth_31 : decode cX1_worth 31 = .ok (.iload_n 3, 1) := by decide +kernel
theorem dX1_worth_32 : decode cX1_worth 32 = .ok (.bipush 64, 2) := by decide +kernel
theorem dX1_worth_34 : decode cX1_worth 34 = .ok (.if_icmp .ge 182, 3) := by decide +kernel
theorem dX1_worth_37 : decode cX1_worth 37 = .ok (.iload_n 2, 1) := by decide +kernel
theorem dX1_worth_38 : decode cX1_worth 38 = .ok (.bipush 64, 2) := by decide +kernel
theorem dX1_worth_40 : decode cX1_worth 40 = .ok (.if_icmp .ge 176, 3) := by decide +kernel
theorem dX1_worth_43 : decode cX1_worth 43 = .ok (.aload_n 0, 1) := by decide +kernel
theorem dX1_worth_44 : decode cX1_worth 44 = .ok (.getfield 11, 3) := by decide +kernel
theorem dX1_worth_47 : decode cX1_worth 47 = .ok (.iload_n 3, 1) := by decide +kernel
theorem dX1_worth_48 : decode cX1_worth 48 = .ok (.iaload, 1) := by decide +kernel
theorem dX1_worth_49 : decode cX1_worth 49 = .ok (.istore 4, 2) := by decide +kernel
theorem dX1_worth_51 : decode cX1_worth 51 = .ok (.iload 4, 2) := by decide +kernel
theorem dX1_worth_53 : decode cX1_worth 53 = .ok (.ifCond .ne 22, 3) := by decide +kernel
theorem dX1_worth_56 : decode cX1_worth 56 = .ok (.aload_n 0, 1) := by decide +kernel
theorem dX1_worth_57 : decode cX1_worth 57 = .ok (.getfield 28, 3) := by decide +kernel
theorem dX1_worth_60 : decode cX1_worth 60 = .ok (.iload_n 2, 1) := by decide +kernel
theorem dX1_worth_61 : decode cX1_worth 61 = .ok (.aload_n 0, 1) := by decide +kernel
theorem dX1_worth_62 : decode cX1_worth 62 = .ok (.getfield 15, 3) := by decide +kernel
theorem dX1_worth_65 : decode cX1_worth 65 = .ok (.iload_n 3, 1) := by decide +kernel
theorem dX1_worth_66 : decode cX1_worth 66 = .ok (.iaload, 1) := by decide +kernel
theorem dX1_worth_67 : decode cX1_worth 67 = .ok (.i2l, 1) := by decide +kernel
theorem dX1_worth_68 : decode cX1_worth 68 = .ok (.lastore, 1) := by decide +kernel
theorem dX1_worth_69 : decode cX1_worth 69 = .ok (.iinc 2 1, 3) := by decide +kernel
theorem dX1_worth_72 : decode cX1_worth 72 = .ok (.goto 138, 3) := by decide +kernel
theorem dX1_worth_75 : decode cX1_worth 75 = .ok (.iload 4, 2) := by decide +kernel
theorem dX1_worth_77 : decode cX1_worth 77 = .ok (.iconst 1, 1) := by decide +kernel
theorem dX1_worth_78 : decode cX1_worth 78 = .ok (.if_icmp .ne 29, 3) := by decide +kernel
theorem dX1_worth_81 : decode cX1_worth 81 = .ok (.aload_n 0, 1) := by decide +kernel
theorem dX1_worth_82 : decode cX1_worth 82 = .ok (.getfield 28, 3) := by decide +kernel
theorem dX1_worth_85 : decode cX1_worth 85 = .ok (.iload_n 2, 1) := by decide +kernel
theorem dX1_worth_86 : decode cX1_worth 86 = .ok (.aload_n 0, 1) := by decide +kernel
theorem dX1_worth_87 : decode cX1_worth 87 = .ok (.getfield 32, 3) := by decide +kernel
theorem dX1_worth_90 : decode cX1_worth 90 = .ok (.aload_n 0, 1) := by decide +kernel
theorem dX1_worth_91 : decode cX1_worth 91 = .ok (.getfield 15, 3) := by decide +kernel
theorem dX1_worth_94 : decode cX1_worth 94 = .ok (.iload_n 3, 1) := by decide +kernel
theorem dX1_worth_95 : decode cX1_worth 95 = .ok (.iaload, 1) := by decide +kernel
theorem dX1_worth_96 : decode cX1_worth 96 = .ok (.bipush 7, 2) := by decide +kernel
theorem dX1_worth_98 : decode cX1_worth 98 = .ok (.iand, 1) := by decide +kernel
theorem dX1_worth_99 : decode cX1_worth 99 = .ok (.laload, 1) := by decide +kernel
theorem dX1_worth_100 : decode cX1_worth 100 = .ok (.lastore, 1) := by decide +kernel
theorem dX1_worth_101 : decode cX1_worth 101 = .ok (.iinc 2 1, 3) := by decide +kernel
theorem dX1_worth_104 : decode cX1_worth 104 = .ok (.goto 106, 3) := by decide +kernel
theorem dX1_worth_107 : decode cX1_worth 107 = .ok (.iload 4, 2) := by decide +kernel
theorem dX1_worth_109 : decode cX1_worth 109 = .ok (.iconst 2, 1) := by decide +kernel
theorem dX1_worth_110 : decode cX1_worth 110 = .ok (.if_icmp .ne 37, 3) := by decide +kernel
theorem dX1_worth_113 : decode cX1_worth 113 = .ok (.iload_n 2, 1) := by decide +kernel
theorem dX1_worth_114 : decode cX1_worth 114 = .ok (.iconst 1, 1) := by decide +kernel
theorem dX1_worth_115 : decode cX1_worth 115 = .ok (.if_icmp .lt 32, 3) := by decide +kernel
theorem dX1_worth_118 : decode cX1_worth 118 = .ok (.aload_n 0, 1) := by decide +kernel
theorem dX1_worth_119 : decode cX1_worth 119 = .ok (.getfield 28, 3) := by decide +kernel
theorem dX1_worth_122 : decode cX1_worth 122 = .ok (.iload_n 2, 1) := by decide +kernel
theorem dX1_worth_123 : decode cX1_worth 123 = .ok (.iconst 1, 1) := by decide +kernel
theorem dX1_worth_124 : decode cX1_worth 124 = .ok (.isub, 1) := by decide +kernel
theorem dX1_worth_125 : decode cX1_worth 125 = .ok (.aload_n 0, 1) := by decide +kernel
theorem dX1_worth_126 : decode cX1_worth 126 = .ok (.getfield 28, 3) := by decide +kernel
theorem dX1_worth_129 : decode cX1_worth 129 = .ok (.iload_n 2, 1) := by decide +kernel
theorem dX1_worth_130 : decode cX1_worth 130 = .ok (.iconst 1, 1) := by decide +kernel
theorem dX1_worth_131 : decode cX1_worth 131 = .ok (.isub, 1) := by decide +kernel
theorem dX1_worth_132 : decode cX1_worth 132 = .ok (.laload, 1) := by decide +kernel
theorem dX1_worth_133 : decode cX1_worth 133 = .ok (.lconst 0, 1) := by decide +kernel
theorem dX1_worth_134 : decode cX1_worth 134 = .ok (.lcmp, 1) := by decide +kernel
theorem dX1_worth_135 : decode cX1_worth 135 = .ok (.ifCond .ne 7, 3) := by decide +kernel
theorem dX1_worth_138 : decode cX1_worth 138 = .ok (.lconst 1, 1) := by decide +kernel
theorem dX1_worth_139 : decode cX1_worth 139 = .ok (.goto 4, 3) := by decide +kernel
theorem dX1_worth_142 : decode cX1_worth 142 = .ok (.lconst 0, 1) := by decide +kernel
theorem dX1_worth_143 : decode cX1_worth 143 = .ok (.lastore, 1) := by decide +kernel
theorem dX1_worth_144 : decode cX1_worth 144 = .ok (.goto 66, 3) := by decide +kernel
theorem dX1_worth_147 : decode cX1_worth 147 = .ok (.iload_n 2, 1) := by decide +kernel
theorem dX1_worth_148 : decode cX1_worth 148 = .ok (.iconst 2, 1) := by decide +kernel
theorem dX1_worth_149 : decode cX1_worth 149 = .ok (.if_icmp .lt 61, 3) := by decide +kernel
theorem dX1_worth_152 : decode cX1_worth 152 = .ok (.iload 4, 2) := by decide +kernel
theorem dX1_worth_154 : decode cX1_worth 154 = .ok (.aload_n 0, 1) := by decide +kernel
theorem dX1_worth_155 : decode cX1_worth 155 = .ok (.getfield 28, 3) := by decide +kernel
theorem dX1_worth_158 : decode cX1_worth 158 = .ok (.iload_n 2, 1) := by decide +kernel
theorem dX1_worth_159 : decode cX1_worth 159 = .ok (.iconst 2, 1) := by decide +kernel
theorem dX1_worth_160 : decode cX1_worth 160 = .ok (.isub, 1) := by decide +kernel
theorem dX1_worth_161 : decode cX1_worth 161 = .ok (.laload, 1) := by decide +kernel
theorem dX1_worth_162 : decode cX1_worth 162 = .ok (.aload_n 0, 1) := by decide +kernel
theorem dX1_worth_163 : decode cX1_worth 163 = .ok (.getfield 28, 3) := by decide +kernel
theorem dX1_worth_166 : decode cX1_worth 166 = .ok (.iload_n 2, 1) := by decide +kernel
theorem dX1_worth_167 : decode cX1_worth 167 = .ok (.iconst 1, 1) := by decide +kernel
theorem dX1_worth_168 : decode cX1_worth 168 = .ok (.isub, 1) := by decide +kernel
theorem dX1_worth_169 : decode cX1_worth 169 = .ok (.laload, 1) := by decide +kernel
theorem dX1_worth_170 : decode cX1_worth 170 = .ok (.invokestatic 50, 3) := by decide +kernel
theorem dX1_worth_173 : decode cX1_worth 173 = .ok (.lstore 5, 2) := by decide +kernel
theorem dX1_worth_175 : decode cX1_worth 175 = .ok (.lload 5, 2) := by decide +kernel
theorem dX1_worth_177 : decode cX1_worth 177 = .ok (.ldc2_w 54, 3) := by decide +kernel
theorem dX1_worth_180 : decode cX1_worth 180 = .ok (.lcmp, 1) := by decide +kernel
theorem dX1_worth_181 : decode cX1_worth 181 = .ok (.ifCond .gt 12, 3) := by decide +kernel
theorem dX1_worth_184 : decode cX1_worth 184 = .ok (.lload 5, 2) := by decide +kernel
theorem dX1_worth_186 : decode cX1_worth 186 = .ok (.ldc2_w 56, 3) := by decide +kernel
theorem dX1_worth_189 : decode cX1_worth 189 = .ok (.lcmp, 1) := by decide +kernel
theorem dX1_worth_190 : decode cX1_worth 190 = .ok (.ifCond .ge 7, 3) := by decide +kernel
theorem dX1_worth_193 : decode cX1_worth 193 = .ok (.ldc2_w 48, 3) := by decide +kernel
theorem dX1_worth_196 : decode cX1_worth 196 = .ok (.lreturn, 1) := by decide +kernel
theorem dX1_worth_197 : decode cX1_worth 197 = .ok (.iinc 2 (-1), 3) := by decide +kernel
theorem dX1_worth_200 : decode cX1_worth 200 = .ok (.aload_n 0, 1) := by decide +kernel
theorem dX1_worth_201 : decode cX1_worth 201 = .ok (.getfield 28, 3) := by decide +kernel
theorem dX1_worth_204 : decode cX1_worth 204 = .ok (.iload_n 2, 1) := by decide +kernel
theorem dX1_worth_205 : decode cX1_worth 205 = .ok (.iconst 1, 1) := by decide +kernel
theorem dX1_worth_206 : decode cX1_worth 206 = .ok (.isub, 1) := by decide +kernel
theorem dX1_worth_207 : decode cX1_worth 207 = .ok (.lload 5, 2) := by decide +kernel
theorem dX1_worth_209 : decode cX1_worth 209 = .ok (.lastore, 1) := by decide +kernel
theorem dX1_worth_210 : decode cX1_worth 210 = .ok (.iinc 3 1, 3) := by decide +kernel
theorem dX1_worth_213 : decode cX1_worth 213 = .ok (.goto (-192), 3) := by decide +kernel
theorem dX1_worth_216 : decode cX1_worth 216 = .ok (.aload_n 0, 1) := by decide +kernel
theorem dX1_worth_217 : decode cX1_worth 217 = .ok (.getfield 28, 3) := by decide +kernel
theorem dX1_worth_220 : decode cX1_worth 220 = .ok (.iconst 0, 1) := by decide +kernel
theorem dX1_worth_221 : decode cX1_worth 221 = .ok (.laload, 1) := by decide +kernel
theorem dX1_worth_222 : decode cX1_worth 222 = .ok (.lreturn, 1) := by decide +kernel
theorem dX1_join_0 : decode cX1_join 0 = .ok (.iload_n 0, 1) := by decide +kernel
theorem dX1_join_1 : decode cX1_join 1 = .ok (.tableswitch 250 3 14 #[63, 81, 99, 111, 123, 135, 147, 159, 171, 175, 179, 234], 63) := by decide +kernel
theorem dX1_join_64 : decode cX1_join 64 = .ok (.lload_n 1, 1) := by decide +kernel
theorem dX1_join_65 : decode cX1_join 65 = .ok (.lconst 0, 1) := by decide +kernel
theorem dX1_join_66 : decode cX1_join 66 = .ok (.lcmp, 1) := by decide +kernel
theorem dX1_join_67 : decode cX1_join 67 = .ok (.ifCond .ne 9, 3) := by decide +kernel
theorem dX1_join_70 : decode cX1_join 70 = .ok (.lload_n 3, 1) := by decide +kernel
theorem dX1_join_71 : decode cX1_join 71 = .ok (.lconst 0, 1) := by decide +kernel
theorem dX1_join_72 : decode cX1_join 72 = .ok (.lcmp, 1) := by decide +kernel
theorem dX1_join_73 : decode cX1_join 73 = .ok (.ifCond .eq 7, 3) := by decide +kernel
theorem dX1_join_76 : decode cX1_join 76 = .ok (.lconst 1, 1) := by decide +kernel
theorem dX1_join_77 : decode cX1_join 77 = .ok (.goto 4, 3) := by decide +kernel
theorem dX1_join_80 : decode cX1_join 80 = .ok (.lconst 0, 1) := by decide +kernel
theorem dX1_join_81 : decode cX1_join 81 = .ok (.lreturn, 1) := by decide +kernel
theorem dX1_join_82 : decode cX1_join 82 = .ok (.lload_n 1, 1) := by decide +kernel
theorem dX1_join_83 : decode cX1_join 83 = .ok (.lconst 0, 1) := by decide +kernel
theorem dX1_join_84 : decode cX1_join 84 = .ok (.lcmp, 1) := by decide +kernel
theorem dX1_join_85 : decode cX1_join 85 = .ok (.ifCond .eq 13, 3) := by decide +kernel
theorem dX1_join_88 : decode cX1_join 88 = .ok (.lload_n 3, 1) := by decide +kernel
theorem dX1_join_89 : decode cX1_join 89 = .ok (.lconst 0, 1) := by decide +kernel
theorem dX1_join_90 : decode cX1_join 90 = .ok (.lcmp, 1) := by decide +kernel
theorem dX1_join_91 : decode cX1_join 91 = .ok (.ifCond .eq 7, 3) := by decide +kernel
theorem dX1_join_94 : decode cX1_join 94 = .ok (.lconst 1, 1) := by decide +kernel
theorem dX1_join_95 : decode cX1_join 95 = .ok (.goto 4, 3) := by decide +kernel
theorem dX1_join_98 : decode cX1_join 98 = .ok (.lconst 0, 1) := by decide +kernel
theorem dX1_join_99 : decode cX1_join 99 = .ok (.lreturn, 1) := by decide +kernel
theorem dX1_join_100 : decode cX1_join 100 = .ok (.lload_n 1, 1) := by decide +kernel
theorem dX1_join_101 : decode cX1_join 101 = .ok (.lload_n 3, 1) := by decide +kernel
theorem dX1_join_102 : decode cX1_join 102 = .ok (.lcmp, 1) := by decide +kernel
theorem dX1_join_103 : decode cX1_join 103 = .ok (.ifCond .ge 7, 3) := by decide +kernel
theorem dX1_join_106 : decode cX1_join 106 = .ok (.lconst 1, 1) := by decide +kernel
theorem dX1_join_107 : decode cX1_join 107 = .ok (.goto 4, 3) := by decide +kernel
theorem dX1_join_110 : decode cX1_join 110 = .ok (.lconst 0, 1) := by decide +kernel
theorem dX1_join_111 : decode cX1_join 111 = .ok (.lreturn, 1) := by decide +kernel
theorem dX1_join_112 : decode cX1_join 112 = .ok (.lload_n 1, 1) := by decide +kernel
theorem dX1_join_113 : decode cX1_join 113 = .ok (.lload_n 3, 1) := by decide +kernel
theorem dX1_join_114 : decode cX1_join 114 = .ok (.lcmp, 1) := by decide +kernel
theorem dX1_join_115 : decode cX1_join 115 = .ok (.ifCond .gt 7, 3) := by decide +kernel
theorem dX1_join_118 : decode cX1_join 118 = .ok (.lconst 1, 1) := by decide +kernel
theorem dX1_join_119 : decode cX1_join 119 = .ok (.goto 4, 3) := by decide +kernel
theorem dX1_join_122 : decode cX1_join 122 = .ok (.lconst 0, 1) := by decide +kernel
theorem dX1_join_123 : decode cX1_join 123 = .ok (.lreturn, 1) := by decide +kernel
theorem dX1_join_124 : decode cX1_join 124 = .ok (.lload_n 1, 1) := by decide +kernel
theorem dX1_join_125 : decode cX1_join 125 = .ok (.lload_n 3, 1) := by decide +kernel
theorem dX1_join_126 : decode cX1_join 126 = .ok (.lcmp, 1) := by decide +kernel
theorem dX1_join_127 : decode cX1_join 127 = .ok (.ifCond .ne 7, 3) := by decide +kernel
theorem dX1_join_130 : decode cX1_join 130 = .ok (.lconst 1, 1) := by decide +kernel
theorem dX1_join_131 : decode cX1_join 131 = .ok (.goto 4, 3) := by decide +kernel
theorem dX1_join_134 : decode cX1_join 134 = .ok (.lconst 0, 1) := by decide +kernel
theorem dX1_join_135 : decode cX1_join 135 = .ok (.lreturn, 1) := by decide +kernel
theorem dX1_join_136 : decode cX1_join 136 = .ok (.lload_n 1, 1) := by decide +kernel
theorem dX1_join_137 : decode cX1_join 137 = .ok (.lload_n 3, 1) := by decide +kernel
theorem dX1_join_138 : decode cX1_join 138 = .ok (.lcmp, 1) := by decide +kernel
theorem dX1_join_139 : decode cX1_join 139 = .ok (.ifCond .eq 7, 3) := by decide +kernel
theorem dX1_join_142 : decode cX1_join 142 = .ok (.lconst 1, 1) := by decide +kernel
theorem dX1_join_143 : decode cX1_join 143 = .ok (.goto 4, 3) := by decide +kernel
theorem dX1_join_146 : decode cX1_join 146 = .ok (.lconst 0, 1) := by decide +kernel
theorem dX1_join_147 : decode cX1_join 147 = .ok (.lreturn, 1) := by decide +kernel
theorem dX1_join_148 : decode cX1_join 148 = .ok (.lload_n 1, 1) := by decide +kernel
theorem dX1_join_149 : decode cX1_join 149 = .ok (.lload_n 3, 1) := by decide +kernel
theorem dX1_join_150 : decode cX1_join 150 = .ok (.lcmp, 1) := by decide +kernel
theorem dX1_join_151 : decode cX1_join 151 = .ok (.ifCond .lt 7, 3) := by decide +kernel
theorem dX1_join_154 : decode cX1_join 154 = .ok (.lconst 1, 1) := by decide +kernel
theorem dX1_join_155 : decode cX1_join 155 = .ok (.goto 4, 3) := by decide +kernel
theorem dX1_join_158 : decode cX1_join 158 = .ok (.lconst 0, 1) := by decide +kernel
theorem dX1_join_159 : decode cX1_join 159 = .ok (.lreturn, 1) := by decide +kernel
theorem dX1_join_160 : decode cX1_join 160 = .ok (.lload_n 1, 1) := by decide +kernel
theorem dX1_join_161 : decode cX1_join 161 = .ok (.lload_n 3, 1) := by decide +kernel
theorem dX1_join_162 : decode cX1_join 162 = .ok (.lcmp, 1) := by decide +kernel
theorem dX1_join_163 : decode cX1_join 163 = .ok (.ifCond .le 7, 3) := by decide +kernel
theorem dX1_join_166 : decode cX1_join 166 = .ok (.lconst 1, 1) := by decide +kernel
theorem dX1_join_167 : decode cX1_join 167 = .ok (.goto 4, 3) := by decide +kernel
theorem dX1_join_170 : decode cX1_join 170 = .ok (.lconst 0, 1) := by decide +kernel
theorem dX1_join_171 : decode cX1_join 171 = .ok (.lreturn, 1) := by decide +kernel
theorem dX1_join_172 : decode cX1_join 172 = .ok (.lload_n 1, 1) := by decide +kernel
theorem dX1_join_173 : decode cX1_join 173 = .ok (.lload_n 3, 1) := by decide +kernel
theorem dX1_join_174 : decode cX1_join 174 = .ok (.ladd, 1) := by decide +kernel
theorem dX1_join_175 : decode cX1_join 175 = .ok (.lreturn, 1) := by decide +kernel
theorem dX1_join_176 : decode cX1_join 176 = .ok (.lload_n 1, 1) := by decide +kernel
theorem dX1_join_177 : decode cX1_join 177 = .ok (.lload_n 3, 1) := by decide +kernel
theorem dX1_join_178 : decode cX1_join 178 = .ok (.lsub, 1) := by decide +kernel
theorem dX1_join_179 : decode cX1_join 179 = .ok (.lreturn, 1) := by decide +kernel
theorem dX1_join_180 : decode cX1_join 180 = .ok (.lload_n 1, 1) := by decide +kernel
theorem dX1_join_181 : decode cX1_join 181 = .ok (.lconst 0, 1) := by decide +kernel
theorem dX1_join_182 : decode cX1_join 182 = .ok (.lcmp, 1) := by decide +kernel
theorem dX1_join_183 : decode cX1_join 183 = .ok (.ifCond .ne 9, 3) := by decide +kernel
theorem dX1_join_186 : decode cX1_join 186 = .ok (.ldc2_w 54, 3) := by decide +kernel
theorem dX1_join_189 : decode cX1_join 189 = .ok (.goto 19, 3) := by decide +kernel
theorem dX1_join_192 : decode cX1_join 192 = .ok (.ldc2_w 54, 3) := by decide +kernel
theorem dX1_join_195 : decode cX1_join 195 = .ok (.lload_n 1, 1) := by decide +kernel
theorem dX1_join_196 : decode cX1_join 196 = .ok (.lconst 0, 1) := by decide +kernel
theorem dX1_join_197 : decode cX1_join 197 = .ok (.lcmp, 1) := by decide +kernel
theorem dX1_join_198 : decode cX1_join 198 = .ok (.ifCond .ge 8, 3) := by decide +kernel
theorem dX1_join_201 : decode cX1_join 201 = .ok (.lload_n 1, 1) := by decide +kernel
theorem dX1_join_202 : decode cX1_join 202 = .ok (.lneg, 1) := by decide +kernel
theorem dX1_join_203 : decode cX1_join 203 = .ok (.goto 4, 3) := by decide +kernel
theorem dX1_join_206 : decode cX1_join 206 = .ok (.lload_n 1, 1) := by decide +kernel
theorem dX1_join_207 : decode cX1_join 207 = .ok (.ldiv, 1) := by decide +kernel
theorem dX1_join_208 : decode cX1_join 208 = .ok (.lstore 5, 2) := by decide +kernel
theorem dX1_join_210 : decode cX1_join 210 = .ok (.lload_n 3, 1) := by decide +kernel
theorem dX1_join_211 : decode cX1_join 211 = .ok (.lload 5, 2) := by decide +kernel
theorem dX1_join_213 : decode cX1_join 213 = .ok (.lcmp, 1) := by decide +kernel
theorem dX1_join_214 : decode cX1_join 214 = .ok (.ifCond .gt 11, 3) := by decide +kernel
theorem dX1_join_217 : decode cX1_join 217 = .ok (.lload_n 3, 1) := by decide +kernel
theorem dX1_join_218 : decode cX1_join 218 = .ok (.lload 5, 2) := by decide +kernel
theorem dX1_join_220 : decode cX1_join 220 = .ok (.lneg, 1) := by decide +kernel
theorem dX1_join_221 : decode cX1_join 221 = .ok (.lcmp, 1) := by decide +kernel
theorem dX1_join_222 : decode cX1_join 222 = .ok (.ifCond .ge 9, 3) := by decide +kernel
theorem dX1_join_225 : decode cX1_join 225 = .ok (.ldc2_w 48, 3) := by decide +kernel
theorem dX1_join_228 : decode cX1_join 228 = .ok (.goto 6, 3) := by decide +kernel
theorem dX1_join_231 : decode cX1_join 231 = .ok (.lload_n 1, 1) := by decide +kernel
theorem dX1_join_232 : decode cX1_join 232 = .ok (.lload_n 3, 1) := by decide +kernel
theorem dX1_join_233 : decode cX1_join 233 = .ok (.lmul, 1) := by decide +kernel
theorem dX1_join_234 : decode cX1_join 234 = .ok (.lreturn, 1) := by decide +kernel
theorem dX1_join_235 : decode cX1_join 235 = .ok (.lload_n 3, 1) := by decide +kernel
theorem dX1_join_236 : decode cX1_join 236 = .ok (.lconst 0, 1) := by decide +kernel
theorem dX1_join_237 : decode cX1_join 237 = .ok (.lcmp, 1) := by decide +kernel
theorem dX1_join_238 : decode cX1_join 238 = .ok (.ifCond .ne 9, 3) := by decide +kernel
theorem dX1_join_241 : decode cX1_join 241 = .ok (.ldc2_w 48, 3) := by decide +kernel
theorem dX1_join_244 : decode cX1_join 244 = .ok (.goto 6, 3) := by decide +kernel
theorem dX1_join_247 : decode cX1_join 247 = .ok (.lload_n 1, 1) := by decide +kernel
theorem dX1_join_248 : decode cX1_join 248 = .ok (.lload_n 3, 1) := by decide +kernel
theorem dX1_join_249 : decode cX1_join 249 = .ok (.ldiv, 1) := by decide +kernel
theorem dX1_join_250 : decode cX1_join 250 = .ok (.lreturn, 1) := by decide +kernel
theorem dX1_join_251 : decode cX1_join 251 = .ok (.ldc2_w 48, 3) := by decide +kernel
theorem dX1_join_254 : decode cX1_join 254 = .ok (.lreturn, 1) := by decide +kernel
theorem dX1_within_0 : decode cX1_within 0 = .ok (.aload_n 0, 1) := by decide +kernel
theorem dX1_within_1 : decode cX1_within 1 = .ok (.iload_n 1, 1) := by decide +kernel
theorem dX1_within_2 : decode cX1_within 2 = .ok (.invokevirtual 58, 3) := by decide +kernel
theorem dX1_within_5 : decode cX1_within 5 = .ok (.lstore 5, 2) := by decide +kernel
theorem dX1_within_7 : decode cX1_within 7 = .ok (.lload 5, 2) := by decide +kernel
theorem dX1_within_9 : decode cX1_within 9 = .ok (.ldc2_w 48, 3) := by decide +kernel
theorem dX1_within_12 : decode cX1_within 12 = .ok (.lcmp, 1) := by decide +kernel
theorem dX1_within_13 : decode cX1_within 13 = .ok (.ifCond .ne 6, 3) := by decide +kernel
theorem dX1_within_16 : decode cX1_within 16 = .ok (.iload 4, 2) := by decide +kernel
theorem dX1_within_18 : decode cX1_within 18 = .ok (.ireturn, 1) := by decide +kernel
theorem dX1_within_19 : decode cX1_within 19 = .ok (.lload 5, 2) := by decide +kernel
theorem dX1_within_21 : decode cX1_within 21 = .ok (.iload_n 2, 1) := by decide +kernel
theorem dX1_within_22 : decode cX1_within 22 = .ok (.i2l, 1) := by decide +kernel
theorem dX1_within_23 : decode cX1_within 23 = .ok (.lcmp, 1) := by decide +kernel
theorem dX1_within_24 : decode cX1_within 24 = .ok (.ifCond .ge 7, 3) := by decide +kernel
theorem dX1_within_27 : decode cX1_within 27 = .ok (.iload_n 2, 1) := by decide +kernel
theorem dX1_within_28 : decode cX1_within 28 = .ok (.goto 18, 3) := by decide +kernel
theorem dX1_within_31 : decode cX1_within 31 = .ok (.lload 5, 2) := by decide +kernel
theorem dX1_within_33 : decode cX1_within 33 = .ok (.iload_n 3, 1) := by decide +kernel
theorem dX1_within_34 : decode cX1_within 34 = .ok (.i2l, 1) := by decide +kernel
theorem dX1_within_35 : decode cX1_within 35 = .ok (.lcmp, 1) := by decide +kernel
theorem dX1_within_36 : decode cX1_within 36 = .ok (.ifCond .le 7, 3) := by decide +kernel
theorem dX1_within_39 : decode cX1_within 39 = .ok (.iload_n 3, 1) := by decide +kernel
theorem dX1_within_40 : decode cX1_within 40 = .ok (.goto 6, 3) := by decide +kernel
theorem dX1_within_43 : decode cX1_within 43 = .ok (.lload 5, 2) := by decide +kernel
theorem dX1_within_45 : decode cX1_within 45 = .ok (.l2i, 1) := by decide +kernel
theorem dX1_within_46 : decode cX1_within 46 = .ok (.ireturn, 1) := by decide +kernel
theorem dX2_init_0 : decode cX2_init 0 = .ok (.aload_n 0, 1) := by decide +kernel
theorem dX2_init_1 : decode cX2_init 1 = .ok (.invokespecial 3, 3) := by decide +kernel
theorem dX2_init_4 : decode cX2_init 4 = .ok (.aload_n 0, 1) := by decide +kernel
theorem dX2_init_5 : decode cX2_init 5 = .ok (.bipush 72, 2) := by decide +kernel
theorem dX2_init_7 : decode cX2_init 7 = .ok (.newarray .int, 2) := by decide +kernel
theorem dX2_init_9 : decode cX2_init 9 = .ok (.putfield 13, 3) := by decide +kernel
theorem dX2_init_12 : decode cX2_init 12 = .ok (.aload_n 0, 1) := by decide +kernel
theorem dX2_init_13 : decode cX2_init 13 = .ok (.iconst 0, 1) := by decide +kernel
theorem dX2_init_14 : decode cX2_init 14 = .ok (.putfield 17, 3) := by decide +kernel
theorem dX2_init_17 : decode cX2_init 17 = .ok (.aload_n 0, 1) := by decide +kernel
theorem dX2_init_18 : decode cX2_init 18 = .ok (.iconst 0, 1) := by decide +kernel
theorem dX2_init_19 : decode cX2_init 19 = .ok (.putfield 21, 3) := by decide +kernel
theorem dX2_init_22 : decode cX2_init 22 = .ok (.aload_n 0, 1) := by decide +kernel
theorem dX2_init_23 : decode cX2_init 23 = .ok (.iconst 1, 1) := by decide +kernel
theorem dX2_init_24 : decode cX2_init 24 = .ok (.putfield 24, 3) := by decide +kernel
theorem dX2_init_27 : decode cX2_init 27 = .ok (.aload_n 0, 1) := by decide +kernel
theorem dX2_init_28 : decode cX2_init 28 = .ok (.iconst 1, 1) := by decide +kernel
theorem dX2_init_29 : decode cX2_init 29 = .ok (.putfield 28, 3) := by decide +kernel
theorem dX2_init_32 : decode cX2_init 32 = .ok (.aload_n 0, 1) := by decide +kernel
theorem dX2_init_33 : decode cX2_init 33 = .ok (.iconst 0, 1) := by decide +kernel
theorem dX2_init_34 : decode cX2_init 34 = .ok (.putfield 31, 3) := by decide +kernel
theorem dX2_init_37 : decode cX2_init 37 = .ok (.aload_n 0, 1) := by decide +kernel
theorem dX2_init_38 : decode cX2_init 38 = .ok (.iconst (-1), 1) := by decide +kernel
theorem dX2_init_39 : decode cX2_init 39 = .ok (.putfield 34, 3) := by decide +kernel
theorem dX2_init_42 : decode cX2_init 42 = .ok (.aload_n 0, 1) := by decide +kernel
theorem dX2_init_43 : decode cX2_init 43 = .ok (.new 37, 3) := by decide +kernel
theorem dX2_init_46 : decode cX2_init 46 = .ok (.dup, 1) := by decide +kernel
theorem dX2_init_47 : decode cX2_init 47 = .ok (.aload_n 1, 1) := by decide +kernel
theorem dX2_init_48 : decode cX2_init 48 = .ok (.invokespecial 39, 3) := by decide +kernel
theorem dX2_init_51 : decode cX2_init 51 = .ok (.putfield 42, 3) := by decide +kernel
theorem dX2_init_54 : decode cX2_init 54 = .ok (.return_, 1) := by decide +kernel
theorem dX2_parse_0 : decode cX2_parse 0 = .ok (.aload_n 0, 1) := by decide +kernel
theorem dX2_parse_1 : decode cX2_parse 1 = .ok (.getfield 42, 3) := by decide +kernel
theorem dX2_parse_4 : decode cX2_parse 4 = .ok (.iload_n 2, 1) := by decide +kernel
theorem dX2_parse_5 : decode cX2_parse 5 = .ok (.invokevirtual 46, 3) := by decide +kernel
theorem dX2_parse_8 : decode cX2_parse 8 = .ok (.aload_n 1, 1) := by decide +kernel
theorem dX2_parse_9 : decode cX2_parse 9 = .ok (.invokevirtual 50, 3) := by decide +kernel
theorem dX2_parse_12 : decode cX2_parse 12 = .ok (.aload_n 0, 1) := by decide +kernel
theorem dX2_parse_13 : decode cX2_parse 13 = .ok (.iconst 0, 1) := by decide +kernel
theorem dX2_parse_14 : decode cX2_parse 14 = .ok (.putfield 31, 3) := by decide +kernel
theorem dX2_parse_17 : decode cX2_parse 17 = .ok (.aload_n 0, 1) := by decide +kernel
theorem dX2_parse_18 : decode cX2_parse 18 = .ok (.iconst (-1), 1) := by decide +kernel
theorem dX2_parse_19 : decode cX2_parse 19 = .ok (.putfield 34, 3) := by decide +kernel
theorem dX2_parse_22 : decode cX2_parse 22 = .ok (.iconst 0, 1) := by decide +kernel
theorem dX2_parse_23 : decode cX2_parse 23 = .ok (.istore_n 3, 1) := by decide +kernel
theorem dX2_parse_24 : decode cX2_parse 24 = .ok (.iload_n 3, 1) := by decide +kernel
theorem dX2_parse_25 : decode cX2_parse 25 = .ok (.sipush 700, 3) := by decide +kernel
theorem dX2_parse_28 : decode cX2_parse 28 = .ok (.if_icmp .gt 50, 3) := by decide +kernel
theorem dX2_parse_31 : decode cX2_parse 31 = .ok (.aload_n 0, 1) := by decide +kernel
theorem dX2_parse_32 : decode cX2_parse 32 = .ok (.getfield 42, 3) := by decide +kernel
theorem dX2_parse_35 : decode cX2_parse 35 = .ok (.invokevirtual 55, 3) := by decide +kernel
theorem dX2_parse_38 : decode cX2_parse 38 = .ok (.aload_n 0, 1) := by decide +kernel
theorem dX2_parse_39 : decode cX2_parse 39 = .ok (.getfield 42, 3) := by decide +kernel
theorem dX2_parse_42 : decode cX2_parse 42 = .ok (.getfield 58, 3) := by decide +kernel
theorem dX2_parse_45 : decode cX2_parse 45 = .ok (.bipush 20, 2) := by decide +kernel
theorem dX2_parse_47 : decode cX2_parse 47 = .ok (.if_icmp .ne 5, 3) := by decide +kernel
theorem dX2_parse_50 : decode cX2_parse 50 = .ok (.iconst 1, 1) := by decide +kernel
theorem dX2_parse_51 : decode cX2_parse 51 = .ok (.ireturn, 1) := by decide +kernel
theorem dX2_parse_52 : decode cX2_parse 52 = .ok (.aload_n 0, 1) := by decide +kernel
theorem dX2_parse_53 : decode cX2_parse 53 = .ok (.aload_n 1, 1) := by decide +kernel
theorem dX2_parse_54 : decode cX2_parse 54 = .ok (.invokevirtual 61, 3) := by decide +kernel
theorem dX2_parse_57 : decode cX2_parse 57 = .ok (.ifCond .ne 5, 3) := by decide +kernel
theorem dX2_parse_60 : decode cX2_parse 60 = .ok (.iconst 0, 1) := by decide +kernel
theorem dX2_parse_61 : decode cX2_parse 61 = .ok (.ireturn, 1) := by decide +kernel
theorem dX2_parse_62 : decode cX2_parse 62 = .ok (.aload_n 1, 1) := by decide +kernel
theorem dX2_parse_63 : decode cX2_parse 63 = .ok (.dup, 1) := by decide +kernel
theorem dX2_parse_64 : decode cX2_parse 64 = .ok (.getfield 65, 3) := by decide +kernel
theorem dX2_parse_67 : decode cX2_parse 67 = .ok (.iconst 1, 1) := by decide +kernel
theorem dX2_parse_68 : decode cX2_parse 68 = .ok (.iadd, 1) := by decide +kernel
theorem dX2_parse_69 : decode cX2_parse 69 = .ok (.putfield 65, 3) := by decide +kernel
theorem dX2_parse_72 : decode cX2_parse 72 = .ok (.iinc 3 1, 3) := by decide +kernel
theorem dX2_parse_75 : decode cX2_parse 75 = .ok (.goto (-51), 3) := by decide +kernel
theorem dX2_parse_78 : decode cX2_parse 78 = .ok (.aload_n 0, 1) := by decide +kernel
theorem dX2_parse_79 : decode cX2_parse 79 = .ok (.iconst 1, 1) := by decide +kernel
theorem dX2_parse_80 : decode cX2_parse 80 = .ok (.invokevirtual 68, 3) := by decide +kernel
theorem dX2_parse_83 : decode cX2_parse 83 = .ok (.ireturn, 1) := by decide +kernel
theorem dX2_refuse_0 : decode cX2_refuse 0 = .ok (.aload_n 0, 1) := by decide +kernel
theorem dX2_refuse_1 : decode cX2_refuse 1 = .ok (.iload_n 1, 1) := by decide +kernel
theorem dX2_refuse_2 : decode cX2_refuse 2 = .ok (.putfield 31, 3) := by decide +kernel
theorem dX2_refuse_5 : decode cX2_refuse 5 = .ok (.aload_n 0, 1) := by decide +kernel
theorem dX2_refuse_6 : decode cX2_refuse 6 = .ok (.aload_n 0, 1) := by decide +kernel
theorem dX2_refuse_7 : decode cX2_refuse 7 = .ok (.getfield 42, 3) := by decide +kernel
theorem dX2_refuse_10 : decode cX2_refuse 10 = .ok (.getfield 72, 3) := by decide +kernel
theorem dX2_refuse_13 : decode cX2_refuse 13 = .ok (.putfield 34, 3) := by decide +kernel
theorem dX2_refuse_16 : decode cX2_refuse 16 = .ok (.iconst 0, 1) := by decide +kernel
theorem dX2_refuse_17 : decode cX2_refuse 17 = .ok (.ireturn, 1) := by decide +kernel
theorem dX2_readLine_0 : decode cX2_readLine 0 = .ok (.aload_n 0, 1) := by decide +kernel
theorem dX2_readLine_1 : decode cX2_readLine 1 = .ok (.getfield 42, 3) := by decide +kernel
theorem dX2_readLine_4 : decode cX2_readLine 4 = .ok (.getfield 73, 3) := by decide +kernel
theorem dX2_readLine_7 : decode cX2_readLine 7 = .ok (.tableswitch 145 16 23 #[45, 52, 59, 66, 73, 80, 108, 136], 45) := by decide +kernel
theorem dX2_readLine_52 : decode cX2_readLine 52 = .ok (.aload_n 0, 1) := by decide +kernel
theorem dX2_readLine_53 : decode cX2_readLine 53 = .ok (.aload_n 1, 1) := by decide +kernel
theorem dX2_readLine_54 : decode cX2_readLine 54 = .ok (.iconst 0, 1) := by decide +kernel
theorem dX2_readLine_55 : decode cX2_readLine 55 = .ok (.invokevirtual 76, 3) := by decide +kernel
theorem dX2_readLine_58 : decode cX2_readLine 58 = .ok (.ireturn, 1) := by decide +kernel
theorem dX2_readLine_59 : decode cX2_readLine 59 = .ok (.aload_n 0, 1) := by decide +kernel
theorem dX2_readLine_60 : decode cX2_readLine 60 = .ok (.aload_n 1, 1) := by decide +kernel
theorem dX2_readLine_61 : decode cX2_readLine 61 = .ok (.iconst 1, 1) := by decide +kernel
theorem dX2_readLine_62 : decode cX2_readLine 62 = .ok (.invokevirtual 76, 3) := by decide +kernel
theorem dX2_readLine_65 : decode cX2_readLine 65 = .ok (.ireturn, 1) := by decide +kernel
theorem dX2_readLine_66 : decode cX2_readLine 66 = .ok (.aload_n 0, 1) := by decide +kernel
theorem dX2_readLine_67 : decode cX2_readLine 67 = .ok (.aload_n 1, 1) := by decide +kernel
theorem dX2_readLine_68 : decode cX2_readLine 68 = .ok (.iconst 2, 1) := by decide +kernel
theorem dX2_readLine_69 : decode cX2_readLine 69 = .ok (.invokevirtual 76, 3) := by decide +kernel
theorem dX2_readLine_72 : decode cX2_readLine 72 = .ok (.ireturn, 1) := by decide +kernel
theorem dX2_readLine_73 : decode cX2_readLine 73 = .ok (.aload_n 0, 1) := by decide +kernel
theorem dX2_readLine_74 : decode cX2_readLine 74 = .ok (.aload_n 1, 1) := by decide +kernel
theorem dX2_readLine_75 : decode cX2_readLine 75 = .ok (.iconst 3, 1) := by decide +kernel
theorem dX2_readLine_76 : decode cX2_readLine 76 = .ok (.invokevirtual 76, 3) := by decide +kernel
theorem dX2_readLine_79 : decode cX2_readLine 79 = .ok (.ireturn, 1) := by decide +kernel
theorem dX2_readLine_80 : decode cX2_readLine 80 = .ok (.aload_n 0, 1) := by decide +kernel
theorem dX2_readLine_81 : decode cX2_readLine 81 = .ok (.aload_n 1, 1) := by decide +kernel
theorem dX2_readLine_82 : decode cX2_readLine 82 = .ok (.iconst 4, 1) := by decide +kernel
theorem dX2_readLine_83 : decode cX2_readLine 83 = .ok (.invokevirtual 76, 3) := by decide +kernel
theorem dX2_readLine_86 : decode cX2_readLine 86 = .ok (.ireturn, 1) := by decide +kernel
theorem dX2_readLine_87 : decode cX2_readLine 87 = .ok (.aload_n 1, 1) := by decide +kernel
theorem dX2_readLine_88 : decode cX2_readLine 88 = .ok (.aload_n 0, 1) := by decide +kernel
theorem dX2_readLine_89 : decode cX2_readLine 89 = .ok (.aload_n 1, 1) := by decide +kernel
theorem dX2_readLine_90 : decode cX2_readLine 90 = .ok (.getfield 80, 3) := by decide +kernel
theorem dX2_readLine_93 : decode cX2_readLine 93 = .ok (.bipush 30, 2) := by decide +kernel
theorem dX2_readLine_95 : decode cX2_readLine 95 = .ok (.invokevirtual 83, 3) := by decide +kernel
theorem dX2_readLine_98 : decode cX2_readLine 98 = .ok (.putfield 80, 3) := by decide +kernel
theorem dX2_readLine_101 : decode cX2_readLine 101 = .ok (.aload_n 1, 1) := by decide +kernel
theorem dX2_readLine_102 : decode cX2_readLine 102 = .ok (.getfield 80, 3) := by decide +kernel
theorem dX2_readLine_105 : decode cX2_readLine 105 = .ok (.iconst (-1), 1) := by decide +kernel
theorem dX2_readLine_106 : decode cX2_readLine 106 = .ok (.if_icmp .eq 7, 3) := by decide +kernel
theorem dX2_readLine_109 : decode cX2_readLine 109 = .ok (.iconst 1, 1) := by decide +kernel
theorem dX2_readLine_110 : decode cX2_readLine 110 = .ok (.goto 4, 3) := by decide +kernel
theorem dX2_readLine_113 : decode cX2_readLine 113 = .ok (.iconst 0, 1) := by decide +kernel
theorem dX2_readLine_114 : decode cX2_readLine 114 = .ok (.ireturn, 1) := by decide +kernel
theorem dX2_readLine_115 : decode cX2_readLine 115 = .ok (.aload_n 1, 1) := by decide +kernel
theorem dX2_readLine_116 : decode cX2_readLine 116 = .ok (.aload_n 0, 1) := by decide +kernel
theorem dX2_readLine_117 : decode cX2_readLine 117 = .ok (.aload_n 1, 1) := by decide +kernel
theorem dX2_readLine_118 : decode cX2_readLine 118 = .ok (.getfield 87, 3) := by decide +kernel
theorem dX2_readLine_121 : decode cX2_readLine 121 = .ok (.ldc 90, 2) := by decide +kernel
theorem dX2_readLine_123 : decode cX2_readLine 123 = .ok (.invokevirtual 83, 3) := by decide +kernel
theorem dX2_readLine_126 : decode cX2_readLine 126 = .ok (.putfield 87, 3) := by decide +kernel
theorem dX2_readLine_129 : decode cX2_readLine 129 = .ok (.aload_n 1, 1) := by decide +kernel
theorem dX2_readLine_130 : decode cX2_readLine 130 = .ok (.getfield 87, 3) := by decide +kernel
theorem dX2_readLine_133 : decode cX2_readLine 133 = .ok (.iconst (-1), 1) := by decide +kernel
theorem dX2_readLine_134 : decode cX2_readLine 134 = .ok (.if_icmp .eq 7, 3) := by decide +kernel
theorem dX2_readLine_137 : decode cX2_readLine 137 = .ok (.iconst 1, 1) := by decide +kernel
theorem dX2_readLine_138 : decode cX2_readLine 138 = .ok (.goto 4, 3) := by decide +kernel
theorem dX2_readLine_141 : decode cX2_readLine 141 = .ok (.iconst 0, 1) := by decide +kernel
theorem dX2_readLine_142 : decode cX2_readLine 142 = .ok (.ireturn, 1) := by decide +kernel
theorem dX2_readLine_143 : decode cX2_readLine 143 = .ok (.aload_n 0, 1) := by decide +kernel
theorem dX2_readLine_144 : decode cX2_readLine 144 = .ok (.aload_n 1, 1) := by decide +kernel
theorem dX2_readLine_145 : decode cX2_readLine 145 = .ok (.getfield 91, 3) := by decide +kernel
theorem dX2_readLine_148 : decode cX2_readLine 148 = .ok (.invokevirtual 95, 3) := by decide +kernel
theorem dX2_readLine_151 : decode cX2_readLine 151 = .ok (.ireturn, 1) := by decide +kernel
theorem dX2_readLine_152 : decode cX2_readLine 152 = .ok (.aload_n 0, 1) := by decide +kernel
theorem dX2_readLine_153 : decode cX2_readLine 153 = .ok (.iconst 1, 1) := by decide +kernel
theorem dX2_readLine_154 : decode cX2_readLine 154 = .ok (.invokevirtual 68, 3) := by decide +kernel
theorem dX2_readLine_157 : decode cX2_readLine 157 = .ok (.ireturn, 1) := by decide +kernel
theorem dX2_readRow_0 : decode cX2_readRow 0 = .ok (.aload_n 1, 1) := by decide +kernel
theorem dX2_readRow_1 : decode cX2_readRow 1 = .ok (.getfield 99, 3) := by decide +kernel
theorem dX2_readRow_4 : decode cX2_readRow 4 = .ok (.iload_n 2, 1) := by decide +kernel
theorem dX2_readRow_5 : decode cX2_readRow 5 = .ok (.aaload, 1) := by decide +kernel
theorem dX2_readRow_6 : decode cX2_readRow 6 = .ok (.astore_n 3, 1) := by decide +kernel
theorem dX2_readRow_7 : decode cX2_readRow 7 = .ok (.aload_n 3, 1) := by decide +kernel
theorem dX2_readRow_8 : decode cX2_readRow 8 = .ok (.getfield 103, 3) := by decide +kernel
theorem dX2_readRow_11 : decode cX2_readRow 11 = .ok (.aload_n 3, 1) := by decide +kernel
theorem dX2_readRow_12 : decode cX2_readRow 12 = .ok (.getfield 108, 3) := by decide +kernel
theorem dX2_readRow_15 : decode cX2_readRow 15 = .ok (.if_icmp .lt 9, 3) := by decide +kernel
theorem dX2_readRow_18 : decode cX2_readRow 18 = .ok (.aload_n 0, 1) := by decide +kernel
theorem dX2_readRow_19 : decode cX2_readRow 19 = .ok (.iconst 2, 1) := by decide +kernel
theorem dX2_readRow_20 : decode cX2_readRow 20 = .ok (.invokevirtual 68, 3) := by decide +kernel
theorem dX2_readRow_23 : decode cX2_readRow 23 = .ok (.ireturn, 1) := by decide +kernel
theorem dX2_readRow_24 : decode cX2_readRow 24 = .ok (.aload_n 0, 1) := by decide +kernel
theorem dX2_readRow_25 : decode cX2_readRow 25 = .ok (.getfield 42, 3) := by decide +kernel
theorem dX2_readRow_28 : decode cX2_readRow 28 = .ok (.invokevirtual 55, 3) := by decide +kernel
theorem dX2_readRow_31 : decode cX2_readRow 31 = .ok (.aload_n 0, 1) := by decide +kernel
theorem dX2_readRow_32 : decode cX2_readRow 32 = .ok (.getfield 42, 3) := by decide +kernel
theorem dX2_readRow_35 : decode cX2_readRow 35 = .ok (.invokevirtual 111, 3) := by decide +kernel
theorem dX2_readRow_38 : decode cX2_readRow 38 = .ok (.ifCond .ne 9, 3) := by decide +kernel
theorem dX2_readRow_41 : decode cX2_readRow 41 = .ok (.aload_n 0, 1) := by decide +kernel
theorem dX2_readRow_42 : decode cX2_readRow 42 = .ok (.iconst 1, 1) := by decide +kernel
theorem dX2_readRow_43 : decode cX2_readRow 43 = .ok (.invokevirtual 68, 3) := by decide +kernel
theorem dX2_readRow_46 : decode cX2_readRow 46 = .ok (.ireturn, 1) := by decide +kernel
theorem dX2_readRow_47 : decode cX2_readRow 47 = .ok (.aload_n 3, 1) := by decide +kernel
theorem dX2_readRow_48 : decode cX2_readRow 48 = .ok (.aload_n 0, 1) := by decide +kernel
theorem dX2_readRow_49 : decode cX2_readRow 49 = .ok (.getfield 42, 3) := by decide +kernel
theorem dX2_readRow_52 : decode cX2_readRow 52 = .ok (.getfield 115, 3) := by decide +kernel
theorem dX2_readRow_55 : decode cX2_readRow 55 = .ok (.invokevirtual 118, 3) := by decide +kernel
theorem dX2_readRow_58 : decode cX2_readRow 58 = .ok (.iconst (-1), 1) := by decide +kernel
theorem dX2_readRow_59 : decode cX2_readRow 59 = .ok (.if_icmp .eq 9, 3) := by decide +kernel
theorem dX2_readRow_62 : decode cX2_readRow 62 = .ok (.aload_n 0, 1) := by decide +kernel
theorem dX2_readRow_63 : decode cX2_readRow 63 = .ok (.iconst 3, 1) := by decide +kernel
theorem dX2_readRow_64 : decode cX2_readRow 64 = .ok (.invokevirtual 68, 3) := by decide +kernel
theorem dX2_readRow_67 : decode cX2_readRow 67 = .ok (.ireturn, 1) := by decide +kernel
theorem dX2_readRow_68 : decode cX2_readRow 68 = .ok (.aload_n 3, 1) := by decide +kernel
theorem dX2_readRow_69 : decode cX2_readRow 69 = .ok (.aload_n 0, 1) := by decide +kernel
theorem dX2_readRow_70 : decode cX2_readRow 70 = .ok (.getfield 42, 3) := by decide +kernel
theorem dX2_readRow_73 : decode cX2_readRow 73 = .ok (.getfield 115, 3) := by decide +kernel
theorem dX2_readRow_76 : decode cX2_readRow 76 = .ok (.invokevirtual 122, 3) := by decide +kernel
theorem dX2_readRow_79 : decode cX2_readRow 79 = .ok (.iconst 0, 1) := by decide +kernel
theorem dX2_readRow_80 : decode cX2_readRow 80 = .ok (.istore 4, 2) := by decide +kernel
theorem dX2_readRow_82 : decode cX2_readRow 82 = .ok (.iload 4, 2) := by decide +kernel
theorem dX2_readRow_84 : decode cX2_readRow 84 = .ok (.getstatic 124, 3) := by decide +kernel
theorem dX2_readRow_87 : decode cX2_readRow 87 = .ok (.iload_n 2, 1) := by decide +kernel
theorem dX2_readRow_88 : decode cX2_readRow 88 = .ok (.iaload, 1) := by decide +kernel
theorem dX2_readRow_89 : decode cX2_readRow 89 = .ok (.if_icmp .ge 58, 3) := by decide +kernel
theorem dX2_readRow_92 : decode cX2_readRow 92 = .ok (.aload_n 0, 1) := by decide +kernel
theorem dX2_readRow_93 : decode cX2_readRow 93 = .ok (.getfield 42, 3) := by decide +kernel
theorem dX2_readRow_96 : decode cX2_readRow 96 = .ok (.invokevirtual 55, 3) := by decide +kernel
theorem dX2_readRow_99 : decode cX2_readRow 99 = .ok (.aload_n 0, 1) := by decide +kernel
theorem dX2_readRow_100 : decode cX2_readRow 100 = .ok (.getstatic 127, 3) := by decide +kernel
theorem dX2_readRow_103 : decode cX2_readRow 103 = .ok (.iconst 3, 1) := by decide +kernel
theorem dX2_readRow_104 : decode cX2_readRow 104 = .ok (.iload_n 2, 1) := by decide +kernel
theorem dX2_readRow_105 : decode cX2_readRow 105 = .ok (.imul, 1) := by decide +kernel
theorem dX2_readRow_106 : decode cX2_readRow 106 = .ok (.iload 4, 2) := by decide +kernel
theorem dX2_readRow_108 : decode cX2_readRow 108 = .ok (.iadd, 1) := by decide +kernel
theorem dX2_readRow_109 : decode cX2_readRow 109 = .ok (.iaload, 1) := by decide +kernel
theorem dX2_readRow_110 : decode cX2_readRow 110 = .ok (.getstatic 130, 3) := by decide +kernel
theorem dX2_readRow_113 : decode cX2_readRow 113 = .ok (.iconst 3, 1) := by decide +kernel
theorem dX2_readRow_114 : decode cX2_readRow 114 = .ok (.iload_n 2, 1) := by decide +kernel
theorem dX2_readRow_115 : decode cX2_readRow 115 = .ok (.imul, 1) := by decide +kernel
theorem dX2_readRow_116 : decode cX2_readRow 116 = .ok (.iload 4, 2) := by decide +kernel
theorem dX2_readRow_118 : decode cX2_readRow 118 = .ok (.iadd, 1) := by decide +kernel
theorem dX2_readRow_119 : decode cX2_readRow 119 = .ok (.iaload, 1) := by decide +kernel
theorem dX2_readRow_120 : decode cX2_readRow 120 = .ok (.invokevirtual 133, 3) := by decide +kernel
theorem dX2_readRow_123 : decode cX2_readRow 123 = .ok (.ifCond .ne 5, 3) := by decide +kernel
theorem dX2_readRow_126 : decode cX2_readRow 126 = .ok (.iconst 0, 1) := by decide +kernel
theorem dX2_readRow_127 : decode cX2_readRow 127 = .ok (.ireturn, 1) := by decide +kernel
theorem dX2_readRow_128 : decode cX2_readRow 128 = .ok (.aload_n 3, 1) := by decide +kernel
theorem dX2_readRow_129 : decode cX2_readRow 129 = .ok (.iload 4, 2) := by decide +kernel
theorem dX2_readRow_131 : decode cX2_readRow 131 = .ok (.aload_n 0, 1) := by decide +kernel
theorem dX2_readRow_132 : decode cX2_readRow 132 = .ok (.getfield 42, 3) := by decide +kernel
theorem dX2_readRow_135 : decode cX2_readRow 135 = .ok (.getfield 115, 3) := by decide +kernel
theorem dX2_readRow_138 : decode cX2_readRow 138 = .ok (.invokevirtual 137, 3) := by decide +kernel
theorem dX2_readRow_141 : decode cX2_readRow 141 = .ok (.iinc 4 1, 3) := by decide +kernel
theorem dX2_readRow_144 : decode cX2_readRow 144 = .ok (.goto (-62), 3) := by decide +kernel
theorem dX2_readRow_147 : decode cX2_readRow 147 = .ok (.iload_n 2, 1) := by decide +kernel
theorem dX2_readRow_148 : decode cX2_readRow 148 = .ok (.iconst 3, 1) := by decide +kernel
theorem dX2_readRow_149 : decode cX2_readRow 149 = .ok (.if_icmp .ne 13, 3) := by decide +kernel
theorem dX2_readRow_152 : decode cX2_readRow 152 = .ok (.aload_n 0, 1) := by decide +kernel
theorem dX2_readRow_153 : decode cX2_readRow 153 = .ok (.aload_n 1, 1) := by decide +kernel
theorem dX2_readRow_154 : decode cX2_readRow 154 = .ok (.invokevirtual 141, 3) := by decide +kernel
theorem dX2_readRow_157 : decode cX2_readRow 157 = .ok (.ifCond .ne 5, 3) := by decide +kernel
theorem dX2_readRow_160 : decode cX2_readRow 160 = .ok (.iconst 0, 1) := by decide +kernel
theorem dX2_readRow_161 : decode cX2_readRow 161 = .ok (.ireturn, 1) := by decide +kernel
theorem dX2_readRow_162 : decode cX2_readRow 162 = .ok (.aload_n 0, 1) := by decide +kernel
theorem dX2_readRow_163 : decode cX2_readRow 163 = .ok (.getfield 42, 3) := by decide +kernel
theorem dX2_readRow_166 : decode cX2_readRow 166 = .ok (.invokevirtual 55, 3) := by decide +kernel
theorem dX2_readRow_169 : decode cX2_readRow 169 = .ok (.iload_n 2, 1) := by decide +kernel
theorem dX2_readRow_170 : decode cX2_readRow 170 = .ok (.ifCond .ne 8, 3) := by decide +kernel
theorem dX2_readRow_173 : decode cX2_readRow 173 = .ok (.aload_n 0, 1) := by decide +kernel
theorem dX2_readRow_174 : decode cX2_readRow 174 = .ok (.aload_n 3, 1) := by decide +kernel
theorem dX2_readRow_175 : decode cX2_readRow 175 = .ok (.invokevirtual 144, 3) := by decide +kernel
theorem dX2_readRow_178 : decode cX2_readRow 178 = .ok (.iload_n 2, 1) := by decide +kernel
theorem dX2_readRow_179 : decode cX2_readRow 179 = .ok (.iconst 3, 1) := by decide +kernel
theorem dX2_readRow_180 : decode cX2_readRow 180 = .ok (.if_icmp .ne 11, 3) := by decide +kernel
theorem dX2_readRow_183 : decode cX2_readRow 183 = .ok (.aload_n 0, 1) := by decide +kernel
theorem dX2_readRow_184 : decode cX2_readRow 184 = .ok (.aload_n 3, 1) := by decide +kernel
theorem dX2_readRow_185 : decode cX2_readRow 185 = .ok (.invokevirtual 148, 3) := by decide +kernel
theorem dX2_readRow_188 : decode cX2_readRow 188 = .ok (.ifCond .eq 21, 3) := by decide +kernel
theorem dX2_readRow_191 : decode cX2_readRow 191 = .ok (.aload_n 0, 1) := by decide +kernel
theorem dX2_readRow_192 : decode cX2_readRow 192 = .ok (.invokevirtual 152, 3) := by decide +kernel
theorem dX2_readRow_195 : decode cX2_readRow 195 = .ok (.ifCond .eq 14, 3) := by decide +kernel
theorem dX2_readRow_198 : decode cX2_readRow 198 = .ok (.aload_n 3, 1) := by decide +kernel
theorem dX2_readRow_199 : decode cX2_readRow 199 = .ok (.invokevirtual 155, 3) := by decide +kernel
theorem dX2_readRow_202 : decode cX2_readRow 202 = .ok (.ifCond .eq 7, 3) := by decide +kernel
theorem dX2_readRow_205 : decode cX2_readRow 205 = .ok (.iconst 1, 1) := by decide +kernel
theorem dX2_readRow_206 : decode cX2_readRow 206 = .ok (.goto 4, 3) := by decide +kernel
theorem dX2_readRow_209 : decode cX2_readRow 209 = .ok (.iconst 0, 1) := by decide +kernel
theorem dX2_readRow_210 : decode cX2_readRow 210 = .ok (.ireturn, 1) := by decide +kernel
theorem dX2_readMarks_0 : decode cX2_readMarks 0 = .ok (.aload_n 0, 1) := by decide +kernel
theorem dX2_readMarks_1 : decode cX2_readMarks 1 = .ok (.getfield 42, 3) := by decide +kernel
theorem dX2_readMarks_4 : decode cX2_readMarks 4 = .ok (.getfield 73, 3) := by decide +kernel
theorem dX2_readMarks_7 : decode cX2_readMarks 7 = .ok (.bipush 24, 2) := by decide +kernel
theorem dX2_readMarks_9 : decode cX2_readMarks 9 = .ok (.if_icmp .ne 16, 3) := by decide +kernel
theorem dX2_readMarks_12 : decode cX2_readMarks 12 = .ok (.aload_n 1, 1) := by decide +kernel
theorem dX2_readMarks_13 : decode cX2_readMarks 13 = .ok (.iconst 2, 1) := by decide +kernel
theorem dX2_readMarks_14 : decode cX2_readMarks 14 = .ok (.iconst 1, 1) := by decide +kernel
theorem dX2_readMarks_15 : decode cX2_readMarks 15 = .ok (.invokevirtual 137, 3) := by decide +kernel
theorem dX2_readMarks_18 : decode cX2_readMarks 18 = .ok (.aload_n 0, 1) := by decide +kernel
theorem dX2_readMarks_19 : decode cX2_readMarks 19 = .ok (.getfield 42, 3) := by decide +kernel
theorem dX2_readMarks_22 : decode cX2_readMarks 22 = .ok (.invokevirtual 55, 3) := by decide +kernel
theorem dX2_readMarks_25 : decode cX2_readMarks 25 = .ok (.aload_n 0, 1) := by decide +kernel
theorem dX2_readMarks_26 : decode cX2_readMarks 26 = .ok (.getfield 42, 3) := by decide +kernel
theorem dX2_readMarks_29 : decode cX2_readMarks 29 = .ok (.getfield 73, 3) := by decide +kernel
theorem dX2_readMarks_32 : decode cX2_readMarks 32 = .ok (.bipush 25, 2) := by decide +kernel
theorem dX2_readMarks_34 : decode cX2_readMarks 34 = .ok (.if_icmp .ne 16, 3) := by decide +kernel
theorem dX2_readMarks_37 : decode cX2_readMarks 37 = .ok (.aload_n 1, 1) := by decide +kernel
theorem dX2_readMarks_38 : decode cX2_readMarks 38 = .ok (.iconst 3, 1) := by decide +kernel
theorem dX2_readMarks_39 : decode cX2_readMarks 39 = .ok (.iconst 1, 1) := by decide +kernel
theorem dX2_readMarks_40 : decode cX2_readMarks 40 = .ok (.invokevirtual 137, 3) := by decide +kernel
theorem dX2_readMarks_43 : decode cX2_readMarks 43 = .ok (.aload_n 0, 1) := by decide +kernel
theorem dX2_readMarks_44 : decode cX2_readMarks 44 = .ok (.getfield 42, 3) := by decide +kernel
theorem dX2_readMarks_47 : decode cX2_readMarks 47 = .ok (.invokevirtual 55, 3) := by decide +kernel
theorem dX2_readMarks_50 : decode cX2_readMarks 50 = .ok (.return_, 1) := by decide +kernel
theorem dX2_readHold_0 : decode cX2_readHold 0 = .ok (.aload_n 0, 1) := by decide +kernel
theorem dX2_readHold_1 : decode cX2_readHold 1 = .ok (.getfield 42, 3) := by decide +kernel
theorem dX2_readHold_4 : decode cX2_readHold 4 = .ok (.invokevirtual 55, 3) := by decide +kernel
theorem dX2_readHold_7 : decode cX2_readHold 7 = .ok (.aload_n 0, 1) := by decide +kernel
theorem dX2_readHold_8 : decode cX2_readHold 8 = .ok (.getfield 42, 3) := by decide +kernel
theorem dX2_readHold_11 : decode cX2_readHold 11 = .ok (.invokevirtual 111, 3) := by decide +kernel
theorem dX2_readHold_14 : decode cX2_readHold 14 = .ok (.ifCond .ne 9, 3) := by decide +kernel
theorem dX2_readHold_17 : decode cX2_readHold 17 = .ok (.aload_n 0, 1) := by decide +kernel
theorem dX2_readHold_18 : decode cX2_readHold 18 = .ok (.iconst 1, 1) := by decide +kernel
theorem dX2_readHold_19 : decode cX2_readHold 19 = .ok (.invokevirtual 68, 3) := by decide +kernel
theorem dX2_readHold_22 : decode cX2_readHold 22 = .ok (.ireturn, 1) := by decide +kernel
theorem dX2_readHold_23 : decode cX2_readHold 23 = .ok (.aload_n 1, 1) := by decide +kernel
theorem dX2_readHold_24 : decode cX2_readHold 24 = .ok (.getfield 99, 3) := by decide +kernel
theorem dX2_readHold_27 : decode cX2_readHold 27 = .ok (.iconst 2, 1) := by decide +kernel
theorem dX2_readHold_28 : decode cX2_readHold 28 = .ok (.aaload, 1) := by decide +kernel
theorem dX2_readHold_29 : decode cX2_readHold 29 = .ok (.aload_n 0, 1) := by decide +kernel
theorem dX2_readHold_30 : decode cX2_readHold 30 = .ok (.getfield 42, 3) := by decide +kernel
theorem dX2_readHold_33 : decode cX2_readHold 33 = .ok (.getfield 115, 3) := by decide +kernel
theorem dX2_readHold_36 : decode cX2_readHold 36 = .ok (.invokevirtual 118, 3) := by decide +kernel
theorem dX2_readHold_39 : decode cX2_readHold 39 = .ok (.istore_n 2, 1) := by decide +kernel
theorem dX2_readHold_40 : decode cX2_readHold 40 = .ok (.aload_n 1, 1) := by decide +kernel
theorem dX2_readHold_41 : decode cX2_readHold 41 = .ok (.getfield 99, 3) := by decide +kernel
theorem dX2_readHold_44 : decode cX2_readHold 44 = .ok (.iconst 3, 1) := by decide +kernel
theorem dX2_readHold_45 : decode cX2_readHold 45 = .ok (.aaload, 1) := by decide +kernel
theorem dX2_readHold_46 : decode cX2_readHold 46 = .ok (.iconst 0, 1) := by decide +kernel
theorem dX2_readHold_47 : decode cX2_readHold 47 = .ok (.iload_n 2, 1) := by decide +kernel
theorem dX2_readHold_48 : decode cX2_readHold 48 = .ok (.invokevirtual 137, 3) := by decide +kernel
theorem dX2_readHold_51 : decode cX2_readHold 51 = .ok (.iload_n 2, 1) := by decide +kernel
theorem dX2_readHold_52 : decode cX2_readHold 52 = .ok (.iconst (-1), 1) := by decide +kernel
theorem dX2_readHold_53 : decode cX2_readHold 53 = .ok (.if_icmp .ne 11, 3) := by decide +kernel
theorem dX2_readHold_56 : decode cX2_readHold 56 = .ok (.aload_n 0, 1) := by decide +kernel
theorem dX2_readHold_57 : decode cX2_readHold 57 = .ok (.iconst 4, 1) := by decide +kernel
theorem dX2_readHold_58 : decode cX2_readHold 58 = .ok (.invokevirtual 68, 3) := by decide +kernel
theorem dX2_readHold_61 : decode cX2_readHold 61 = .ok (.ifCond .eq 7, 3) := by decide +kernel
theorem dX2_readHold_64 : decode cX2_readHold 64 = .ok (.iconst 1, 1) := by decide +kernel
theorem dX2_readHold_65 : decode cX2_readHold 65 = .ok (.goto 4, 3) := by decide +kernel
theorem dX2_readHold_68 : decode cX2_readHold 68 = .ok (.iconst 0, 1) := by decide +kernel
theorem dX2_readHold_69 : decode cX2_readHold 69 = .ok (.ireturn, 1) := by decide +kernel
theorem dX2_readPaces_0 : decode cX2_readPaces 0 = .ok (.iconst 0, 1) := by decide +kernel
theorem dX2_readPaces_1 : decode cX2_readPaces 1 = .ok (.istore_n 2, 1) := by decide +kernel
theorem dX2_readPaces_2 : decode cX2_readPaces 2 = .ok (.iload_n 2, 1) := by decide +kernel
theorem dX2_readPaces_3 : decode cX2_readPaces 3 = .ok (.bipush 6, 2) := by decide +kernel
theorem dX2_readPaces_5 : decode cX2_readPaces 5 = .ok (.if_icmp .ge 70, 3) := by decide +kernel
theorem dX2_readPaces_8 : decode cX2_readPaces 8 = .ok (.iload_n 2, 1) := by decide +kernel
theorem dX2_readPaces_9 : decode cX2_readPaces 9 = .ok (.ifCond .eq 13, 3) := by decide +kernel
theorem dX2_readPaces_12 : decode cX2_readPaces 12 = .ok (.aload_n 0, 1) := by decide +kernel
theorem dX2_readPaces_13 : decode cX2_readPaces 13 = .ok (.getfield 42, 3) := by decide +kernel
theorem dX2_readPaces_16 : decode cX2_readPaces 16 = .ok (.getfield 58, 3) := by decide +kernel
theorem dX2_readPaces_19 : decode cX2_readPaces 19 = .ok (.ifCond .ne 56, 3) := by decide +kernel
theorem dX2_readPaces_22 : decode cX2_readPaces 22 = .ok (.aload_n 0, 1) := by decide +kernel
theorem dX2_readPaces_23 : decode cX2_readPaces 23 = .ok (.iconst 1, 1) := by decide +kernel
theorem dX2_readPaces_24 : decode cX2_readPaces 24 = .ok (.bipush 9, 2) := by decide +kernel
theorem dX2_readPaces_26 : decode cX2_readPaces 26 = .ok (.invokevirtual 133, 3) := by decide +kernel
theorem dX2_readPaces_29 : decode cX2_readPaces 29 = .ok (.ifCond .ne 5, 3) := by decide +kernel
theorem dX2_readPaces_32 : decode cX2_readPaces 32 = .ok (.iconst 0, 1) := by decide +kernel
theorem dX2_readPaces_33 : decode cX2_readPaces 33 = .ok (.ireturn, 1) := by decide +kernel
theorem dX2_readPaces_34 : decode cX2_readPaces 34 = .ok (.iload_n 2, 1) := by decide +kernel
theorem dX2_readPaces_35 : decode cX2_readPaces 35 = .ok (.istore_n 3, 1) := by decide +kernel
theorem dX2_readPaces_36 : decode cX2_readPaces 36 = .ok (.iload_n 3, 1) := by decide +kernel
theorem dX2_readPaces_37 : decode cX2_readPaces 37 = .ok (.bipush 6, 2) := by decide +kernel
theorem dX2_readPaces_39 : decode cX2_readPaces 39 = .ok (.if_icmp .ge 23, 3) := by decide +kernel
theorem dX2_readPaces_42 : decode cX2_readPaces 42 = .ok (.aload_n 1, 1) := by decide +kernel
theorem dX2_readPaces_43 : decode cX2_readPaces 43 = .ok (.iconst 1, 1) := by decide +kernel
theorem dX2_readPaces_44 : decode cX2_readPaces 44 = .ok (.iload_n 3, 1) := by decide +kernel
theorem dX2_readPaces_45 : decode cX2_readPaces 45 = .ok (.iadd, 1) := by decide +kernel
theorem dX2_readPaces_46 : decode cX2_readPaces 46 = .ok (.aload_n 0, 1) := by decide +kernel
theorem dX2_readPaces_47 : decode cX2_readPaces 47 = .ok (.getfield 42, 3) := by decide +kernel
theorem dX2_readPaces_50 : decode cX2_readPaces 50 = .ok (.getfield 115, 3) := by decide +kernel
theorem dX2_readPaces_53 : decode cX2_readPaces 53 = .ok (.invokevirtual 137, 3) := by decide +kernel
theorem dX2_readPaces_56 : decode cX2_readPaces 56 = .ok (.iinc 3 1, 3) := by decide +kernel
theorem dX2_readPaces_59 : decode cX2_readPaces 59 = .ok (.goto (-23), 3) := by decide +kernel
theorem dX2_readPaces_62 : decode cX2_readPaces 62 = .ok (.aload_n 0, 1) := by decide +kernel
theorem dX2_readPaces_63 : decode cX2_readPaces 63 = .ok (.getfield 42, 3) := by decide +kernel
theorem dX2_readPaces_66 : decode cX2_readPaces 66 = .ok (.invokevirtual 55, 3) := by decide +kernel
theorem dX2_readPaces_69 : decode cX2_readPaces 69 = .ok (.iinc 2 1, 3) := by decide +kernel
theorem dX2_readPaces_72 : decode cX2_readPaces 72 = .ok (.goto (-70), 3) := by decide +kernel
theorem dX2_readPaces_75 : decode cX2_readPaces 75 = .ok (.aload_n 0, 1) := by decide +kernel
theorem dX2_readPaces_76 : decode cX2_readPaces 76 = .ok (.getfield 42, 3) := by decide +kernel
theorem dX2_readPaces_79 : decode cX2_readPaces 79 = .ok (.getfield 58, 3) := by decide +kernel
theorem dX2_readPaces_82 : decode cX2_readPaces 82 = .ok (.ifCond .ne 11, 3) := by decide +kernel
theorem dX2_readPaces_85 : decode cX2_readPaces 85 = .ok (.aload_n 0, 1) := by decide +kernel
theorem dX2_readPaces_86 : decode cX2_readPaces 86 = .ok (.iconst 2, 1) := by decide +kernel
theorem dX2_readPaces_87 : decode cX2_readPaces 87 = .ok (.invokevirtual 68, 3) := by decide +kernel
theorem dX2_readPaces_90 : decode cX2_readPaces 90 = .ok (.ifCond .eq 7, 3) := by decide +kernel
theorem dX2_readPaces_93 : decode cX2_readPaces 93 = .ok (.iconst 1, 1) := by decide +kernel
theorem dX2_readPaces_94 : decode cX2_readPaces 94 = .ok (.goto 4, 3) := by decide +kernel
theorem dX2_readPaces_97 : decode cX2_readPaces 97 = .ok (.iconst 0, 1) := by decide +kernel
theorem dX2_readPaces_98 : decode cX2_readPaces 98 = .ok (.ireturn, 1) := by decide +kernel
theorem dX2_readLone_0 : decode cX2_readLone 0 = .ok (.iload_n 1, 1) := by decide +kernel
theorem dX2_readLone_1 : decode cX2_readLone 1 = .ok (.iconst (-1), 1) := by decide +kernel
theorem dX2_readLone_2 : decode cX2_readLone 2 = .ok (.if_icmp .eq 11, 3) := by decide +kernel
theorem dX2_readLone_5 : decode cX2_readLone 5 = .ok (.aload_n 0, 1) := by decide +kernel
theorem dX2_readLone_6 : decode cX2_readLone 6 = .ok (.iconst 3, 1) := by decide +kernel
theorem dX2_readLone_7 : decode cX2_readLone 7 = .ok (.invokevirtual 68, 3) := by decide +kernel
theorem dX2_readLone_10 : decode cX2_readLone 10 = .ok (.pop, 1) := by decide +kernel
theorem dX2_readLone_11 : decode cX2_readLone 11 = .ok (.iconst (-1), 1) := by decide +kernel
theorem dX2_readLone_12 : decode cX2_readLone 12 = .ok (.ireturn, 1) := by decide +kernel
theorem dX2_readLone_13 : decode cX2_readLone 13 = .ok (.aload_n 0, 1) := by decide +kernel
theorem dX2_readLone_14 : decode cX2_readLone 14 = .ok (.getfield 42, 3) := by decide +kernel
theorem dX2_readLone_17 : decode cX2_readLone 17 = .ok (.invokevirtual 55, 3) := by decide +kernel
theorem dX2_readLone_20 : decode cX2_readLone 20 = .ok (.aload_n 0, 1) := by decide +kernel
theorem dX2_readLone_21 : decode cX2_readLone 21 = .ok (.iconst 0, 1) := by decide +kernel
theorem dX2_readLone_22 : decode cX2_readLone 22 = .ok (.iload_n 2, 1) := by decide +kernel
theorem dX2_readLone_23 : decode cX2_readLone 23 = .ok (.invokevirtual 133, 3) := by decide +kernel
theorem dX2_readLone_26 : decode cX2_readLone 26 = .ok (.ifCond .ne 5, 3) := by decide +kernel
theorem dX2_readLone_29 : decode cX2_readLone 29 = .ok (.iconst (-1), 1) := by decide +kernel
theorem dX2_readLone_30 : decode cX2_readLone 30 = .ok (.ireturn, 1) := by decide +kernel
theorem dX2_readLone_31 : decode cX2_readLone 31 = .ok (.aload_n 0, 1) := by decide +kernel
theorem dX2_readLone_32 : decode cX2_readLone 32 = .ok (.getfield 42, 3) := by decide +kernel
theorem dX2_readLone_35 : decode cX2_readLone 35 = .ok (.getfield 115, 3) := by decide +kernel
theorem dX2_readLone_38 : decode cX2_readLone 38 = .ok (.istore_n 3, 1) := by decide +kernel
theorem dX2_readLone_39 : decode cX2_readLone 39 = .ok (.aload_n 0, 1) := by decide +kernel
theorem dX2_readLone_40 : decode cX2_readLone 40 = .ok (.getfield 42, 3) := by decide +kernel
theorem dX2_readLone_43 : decode cX2_readLone 43 = .ok (.invokevirtual 55, 3) := by decide +kernel
theorem dX2_readLone_46 : decode cX2_readLone 46 = .ok (.aload_n 0, 1) := by decide +kernel
theorem dX2_readLone_47 : decode cX2_readLone 47 = .ok (.invokevirtual 152, 3) := by decide +kernel
theorem dX2_readLone_50 : decode cX2_readLone 50 = .ok (.ifCond .eq 7, 3) := by decide +kernel
theorem dX2_readLone_53 : decode cX2_readLone 53 = .ok (.iload_n 3, 1) := by decide +kernel
theorem dX2_readLone_54 : decode cX2_readLone 54 = .ok (.goto 4, 3) := by decide +kernel
theorem dX2_readLone_57 : decode cX2_readLone 57 = .ok (.iconst (-1), 1) := by decide +kernel
theorem dX2_readLone_58 : decode cX2_readLone 58 = .ok (.ireturn, 1) := by decide +kernel
theorem dX2_isNumber_0 : decode cX2_isNumber 0 = .ok (.aload_n 0, 1) := by decide +kernel
theorem dX2_isNumber_1 : decode cX2_isNumber 1 = .ok (.getfield 42, 3) := by decide +kernel
theorem dX2_isNumber_4 : decode cX2_isNumber 4 = .ok (.getfield 58, 3) := by decide +kernel
theorem dX2_isNumber_7 : decode cX2_isNumber 7 = .ok (.ifCond .eq 9, 3) := by decide +kernel
theorem dX2_isNumber_10 : decode cX2_isNumber 10 = .ok (.aload_n 0, 1) := by decide +kernel
theorem dX2_isNumber_11 : decode cX2_isNumber 11 = .ok (.iconst 1, 1) := by decide +kernel
theorem dX2_isNumber_12 : decode cX2_isNumber 12 = .ok (.invokevirtual 68, 3) := by decide +kernel
theorem dX2_isNumber_15 : decode cX2_isNumber 15 = .ok (.ireturn, 1) := by decide +kernel
theorem dX2_isNumber_16 : decode cX2_isNumber 16 = .ok (.aload_n 0, 1) := by decide +kernel
theorem dX2_isNumber_17 : decode cX2_isNumber 17 = .ok (.getfield 42, 3) := by decide +kernel
theorem dX2_isNumber_20 : decode cX2_isNumber 20 = .ok (.getfield 115, 3) := by decide +kernel
theorem dX2_isNumber_23 : decode cX2_isNumber 23 = .ok (.iload_n 1, 1) := by decide +kernel
theorem dX2_isNumber_24 : decode cX2_isNumber 24 = .ok (.if_icmp .lt 14, 3) := by decide +kernel
theorem dX2_isNumber_27 : decode cX2_isNumber 27 = .ok (.aload_n 0, 1) := by decide +kernel
theorem dX2_isNumber_28 : decode cX2_isNumber 28 = .ok (.getfield 42, 3) := by decide +kernel
theorem dX2_isNumber_31 : decode cX2_isNumber 31 = .ok (.getfield 115, 3) := by decide +kernel
theorem dX2_isNumber_34 : decode cX2_isNumber 34 = .ok (.iload_n 2, 1) := by decide +kernel
theorem dX2_isNumber_35 : decode cX2_isNumber 35 = .ok (.if_icmp .le 11, 3) := by decide +kernel
theorem dX2_isNumber_38 : decode cX2_isNumber 38 = .ok (.aload_n 0, 1) := by decide +kernel
theorem dX2_isNumber_39 : decode cX2_isNumber 39 = .ok (.iconst 2, 1) := by decide +kernel
theorem dX2_isNumber_40 : decode cX2_isNumber 40 = .ok (.invokevirtual 68, 3) := by decide +kernel
theorem dX2_isNumber_43 : decode cX2_isNumber 43 = .ok (.ifCond .eq 7, 3) := by decide +kernel
theorem dX2_isNumber_46 : decode cX2_isNumber 46 = .ok (.iconst 1, 1) := by decide +kernel
theorem dX2_isNumber_47 : decode cX2_isNumber 47 = .ok (.goto 4, 3) := by decide +kernel
theorem dX2_isNumber_50 : decode cX2_isNumber 50 = .ok (.iconst 0, 1) := by decide +kernel
theorem dX2_isNumber_51 : decode cX2_isNumber 51 = .ok (.ireturn, 1) := by decide +kernel
theorem dX2_ends_0 : decode cX2_ends 0 = .ok (.aload_n 0, 1) := by decide +kernel
theorem dX2_ends_1 : decode cX2_ends 1 = .ok (.getfield 42, 3) := by decide +kernel
theorem dX2_ends_4 : decode cX2_ends 4 = .ok (.getfield 58, 3) := by decide +kernel
theorem dX2_ends_7 : decode cX2_ends 7 = .ok (.bipush 17, 2) := by decide +kernel
theorem dX2_ends_9 : decode cX2_ends 9 = .ok (.if_icmp .eq 11, 3) := by decide +kernel
theorem dX2_ends_12 : decode cX2_ends 12 = .ok (.aload_n 0, 1) := by decide +kernel
theorem dX2_ends_13 : decode cX2_ends 13 = .ok (.iconst 1, 1) := by decide +kernel
theorem dX2_ends_14 : decode cX2_ends 14 = .ok (.invokevirtual 68, 3) := by decide +kernel
theorem dX2_ends_17 : decode cX2_ends 17 = .ok (.ifCond .eq 7, 3) := by decide +kernel
theorem dX2_ends_20 : decode cX2_ends 20 = .ok (.iconst 1, 1) := by decide +kernel
theorem dX2_ends_21 : decode cX2_ends 21 = .ok (.goto 4, 3) := by decide +kernel
theorem dX2_ends_24 : decode cX2_ends 24 = .ok (.iconst 0, 1) := by decide +kernel
theorem dX2_ends_25 : decode cX2_ends 25 = .ok (.ireturn, 1) := by decide +kernel
theorem dX2_readLaw_0 : decode cX2_readLaw 0 = .ok (.aload_n 0, 1) := by decide +kernel
theorem dX2_readLaw_1 : decode cX2_readLaw 1 = .ok (.getfield 42, 3) := by decide +kernel
theorem dX2_readLaw_4 : decode cX2_readLaw 4 = .ok (.invokevirtual 55, 3) := by decide +kernel
theorem dX2_readLaw_7 : decode cX2_readLaw 7 = .ok (.aload_n 0, 1) := by decide +kernel
theorem dX2_readLaw_8 : decode cX2_readLaw 8 = .ok (.getfield 42, 3) := by decide +kernel
theorem dX2_readLaw_11 : decode cX2_readLaw 11 = .ok (.getfield 73, 3) := by decide +kernel
theorem dX2_readLaw_14 : decode cX2_readLaw 14 = .ok (.iconst 0, 1) := by decide +kernel
theorem dX2_readLaw_15 : decode cX2_readLaw 15 = .ok (.isub, 1) := by decide +kernel
theorem dX2_readLaw_16 : decode cX2_readLaw 16 = .ok (.istore_n 2, 1) := by decide +kernel
theorem dX2_readLaw_17 : decode cX2_readLaw 17 = .ok (.iload_n 2, 1) := by decide +kernel
theorem dX2_readLaw_18 : decode cX2_readLaw 18 = .ok (.ifCond .lt 9, 3) := by decide +kernel
theorem dX2_readLaw_21 : decode cX2_readLaw 21 = .ok (.iload_n 2, 1) := by decide +kernel
theorem dX2_readLaw_22 : decode cX2_readLaw 22 = .ok (.bipush 7, 2) := by decide +kernel
theorem dX2_readLaw_24 : decode cX2_readLaw 24 = .ok (.if_icmp .le 9, 3) := by decide +kernel
theorem dX2_readLaw_27 : decode cX2_readLaw 27 = .ok (.aload_n 0, 1) := by decide +kernel
theorem dX2_readLaw_28 : decode cX2_readLaw 28 = .ok (.iconst 1, 1) := by decide +kernel
theorem dX2_readLaw_29 : decode cX2_readLaw 29 = .ok (.invokevirtual 68, 3) := by decide +kernel
theorem dX2_readLaw_32 : decode cX2_readLaw 32 = .ok (.ireturn, 1) := by decide +kernel
theorem dX2_readLaw_33 : decode cX2_readLaw 33 = .ok (.aload_n 1, 1) := by decide +kernel
theorem dX2_readLaw_34 : decode cX2_readLaw 34 = .ok (.iload_n 2, 1) := by decide +kernel
theorem dX2_readLaw_35 : decode cX2_readLaw 35 = .ok (.invokevirtual 158, 3) := by decide +kernel
theorem dX2_readLaw_38 : decode cX2_readLaw 38 = .ok (.ifCond .eq 9, 3) := by decide +kernel
theorem dX2_readLaw_41 : decode cX2_readLaw 41 = .ok (.aload_n 0, 1) := by decide +kernel
theorem dX2_readLaw_42 : decode cX2_readLaw 42 = .ok (.iconst 3, 1) := by decide +kernel
theorem dX2_readLaw_43 : decode cX2_readLaw 43 = .ok (.invokevirtual 68, 3) := by decide +kernel
theorem dX2_readLaw_46 : decode cX2_readLaw 46 = .ok (.ireturn, 1) := by decide +kernel
theorem dX2_readLaw_47 : decode cX2_readLaw 47 = .ok (.aload_n 1, 1) := by decide +kernel
theorem dX2_readLaw_48 : decode cX2_readLaw 48 = .ok (.iload_n 2, 1) := by decide +kernel
theorem dX2_readLaw_49 : decode cX2_readLaw 49 = .ok (.invokevirtual 161, 3) := by decide +kernel
theorem dX2_readLaw_52 : decode cX2_readLaw 52 = .ok (.aload_n 0, 1) := by decide +kernel
theorem dX2_readLaw_53 : decode cX2_readLaw 53 = .ok (.aload_n 1, 1) := by decide +kernel
theorem dX2_readLaw_54 : decode cX2_readLaw 54 = .ok (.invokevirtual 162, 3) := by decide +kernel
theorem dX2_readLaw_57 : decode cX2_readLaw 57 = .ok (.ifCond .eq 15, 3) := by decide +kernel
theorem dX2_readLaw_60 : decode cX2_readLaw 60 = .ok (.aload_n 1, 1) := by decide +kernel
theorem dX2_readLaw_61 : decode cX2_readLaw 61 = .ok (.iload_n 2, 1) := by decide +kernel
theorem dX2_readLaw_62 : decode cX2_readLaw 62 = .ok (.invokevirtual 165, 3) := by decide +kernel
theorem dX2_readLaw_65 : decode cX2_readLaw 65 = .ok (.ifCond .eq 7, 3) := by decide +kernel
theorem dX2_readLaw_68 : decode cX2_readLaw 68 = .ok (.iconst 1, 1) := by decide +kernel
theorem dX2_readLaw_69 : decode cX2_readLaw 69 = .ok (.goto 4, 3) := by decide +kernel
theorem dX2_readLaw_72 : decode cX2_readLaw 72 = .ok (.iconst 0, 1) := by decide +kernel
theorem dX2_readLaw_73 : decode cX2_readLaw 73 = .ok (.ireturn, 1) := by decide +kernel
theorem dX2_readExpression_0 : decode cX2_readExpression 0 = .ok (.aload_n 0, 1) := by decide +kernel
theorem dX2_readExpression_1 : decode cX2_readExpression 1 = .ok (.iconst 0, 1) := by decide +kernel
theorem dX2_readExpression_2 : decode cX2_readExpression 2 = .ok (.putfield 17, 3) := by decide +kernel
theorem dX2_readExpression_5 : decode cX2_readExpression 5 = .ok (.aload_n 0, 1) := by decide +kernel
theorem dX2_readExpression_6 : decode cX2_readExpression 6 = .ok (.iconst 0, 1) := by decide +kernel
theorem dX2_readExpression_7 : decode cX2_readExpression 7 = .ok (.putfield 21, 3) := by decide +kernel
theorem dX2_readExpression_10 : decode cX2_readExpression 10 = .ok (.aload_n 0, 1) := by decide +kernel
theorem dX2_readExpression_11 : decode cX2_readExpression 11 = .ok (.iconst 1, 1) := by decide +kernel
theorem dX2_readExpression_12 : decode cX2_readExpression 12 = .ok (.putfield 24, 3) := by decide +kernel
theorem dX2_readExpression_15 : decode cX2_readExpression 15 = .ok (.aload_n 0, 1) := by decide +kernel
theorem dX2_readExpression_16 : decode cX2_readExpression 16 = .ok (.iconst 1, 1) := by decide +kernel
theorem dX2_readExpression_17 : decode cX2_readExpression 17 = .ok (.putfield 28, 3) := by decide +kernel
theorem dX2_readExpression_20 : decode cX2_readExpression 20 = .ok (.iconst 0, 1) := by decide +kernel
theorem dX2_readExpression_21 : decode cX2_readExpression 21 = .ok (.istore_n 2, 1) := by decide +kernel
theorem dX2_readExpression_22 : decode cX2_readExpression 22 = .ok (.iload_n 2, 1) := by decide +kernel
theorem dX2_readExpression_23 : decode cX2_readExpression 23 = .ok (.sipush 700, 3) := by decide +kernel
theorem dX2_readExpression_26 : decode cX2_readExpression 26 = .ok (.if_icmp .gt 78, 3) := by decide +kernel
theorem dX2_readExpression_29 : decode cX2_readExpression 29 = .ok (.aload_n 0, 1) := by decide +kernel
theorem dX2_readExpression_30 : decode cX2_readExpression 30 = .ok (.getfield 42, 3) := by decide +kernel
theorem dX2_readExpression_33 : decode cX2_readExpression 33 = .ok (.invokevirtual 55, 3) := by decide +kernel
theorem dX2_readExpression_36 : decode cX2_readExpression 36 = .ok (.aload_n 0, 1) := by decide +kernel
theorem dX2_readExpression_37 : decode cX2_readExpression 37 = .ok (.getfield 42, 3) := by decide +kernel
theorem dX2_readExpression_40 : decode cX2_readExpression 40 = .ok (.getfield 58, 3) := by decide +kernel
theorem dX2_readExpression_43 : decode cX2_readExpression 43 = .ok (.bipush 17, 2) := by decide +kernel
theorem dX2_readExpression_45 : decode cX2_readExpression 45 = .ok (.if_icmp .ne 25, 3) := by decide +kernel
theorem dX2_readExpression_48 : decode cX2_readExpression 48 = .ok (.aload_n 0, 1) := by decide +kernel
theorem dX2_readExpression_49 : decode cX2_readExpression 49 = .ok (.getfield 24, 3) := by decide +kernel
theorem dX2_readExpression_52 : decode cX2_readExpression 52 = .ok (.ifCond .ne 18, 3) := by decide +kernel
theorem dX2_readExpression_55 : decode cX2_readExpression 55 = .ok (.aload_n 0, 1) := by decide +kernel
theorem dX2_readExpression_56 : decode cX2_readExpression 56 = .ok (.getfield 21, 3) := by decide +kernel
theorem dX2_readExpression_59 : decode cX2_readExpression 59 = .ok (.ifCond .ne 11, 3) := by decide +kernel
theorem dX2_readExpression_62 : decode cX2_readExpression 62 = .ok (.aload_n 0, 1) := by decide +kernel
theorem dX2_readExpression_63 : decode cX2_readExpression 63 = .ok (.aload_n 1, 1) := by decide +kernel
theorem dX2_readExpression_64 : decode cX2_readExpression 64 = .ok (.iconst 1, 1) := by decide +kernel
theorem dX2_readExpression_65 : decode cX2_readExpression 65 = .ok (.invokevirtual 167, 3) := by decide +kernel
theorem dX2_readExpression_68 : decode cX2_readExpression 68 = .ok (.iconst 1, 1) := by decide +kernel
theorem dX2_readExpression_69 : decode cX2_readExpression 69 = .ok (.ireturn, 1) := by decide +kernel
theorem dX2_readExpression_70 : decode cX2_readExpression 70 = .ok (.aload_n 0, 1) := by decide +kernel
theorem dX2_readExpression_71 : decode cX2_readExpression 71 = .ok (.getfield 24, 3) := by decide +kernel
theorem dX2_readExpression_74 : decode cX2_readExpression 74 = .ok (.ifCond .eq 14, 3) := by decide +kernel
theorem dX2_readExpression_77 : decode cX2_readExpression 77 = .ok (.aload_n 0, 1) := by decide +kernel
theorem dX2_readExpression_78 : decode cX2_readExpression 78 = .ok (.aload_n 1, 1) := by decide +kernel
theorem dX2_readExpression_79 : decode cX2_readExpression 79 = .ok (.invokevirtual 171, 3) := by decide +kernel
theorem dX2_readExpression_82 : decode cX2_readExpression 82 = .ok (.ifCond .ne 16, 3) := by decide +kernel
theorem dX2_readExpression_85 : decode cX2_readExpression 85 = .ok (.goto 11, 3) := by decide +kernel
theorem dX2_readExpression_88 : decode cX2_readExpression 88 = .ok (.aload_n 0, 1) := by decide +kernel
theorem dX2_readExpression_89 : decode cX2_readExpression 89 = .ok (.aload_n 1, 1) := by decide +kernel
theorem dX2_readExpression_90 : decode cX2_readExpression 90 = .ok (.invokevirtual 174, 3) := by decide +kernel
theorem dX2_readExpression_93 : decode cX2_readExpression 93 = .ok (.ifCond .ne 5, 3) := by decide +kernel
theorem dX2_readExpression_96 : decode cX2_readExpression 96 = .ok (.iconst 0, 1) := by decide +kernel
theorem dX2_readExpression_97 : decode cX2_readExpression 97 = .ok (.ireturn, 1) := by decide +kernel
theorem dX2_readExpression_98 : decode cX2_readExpression 98 = .ok (.iinc 2 1, 3) := by decide +kernel
theorem dX2_readExpression_101 : decode cX2_readExpression 101 = .ok (.goto (-79), 3) := by decide +kernel
theorem dX2_readExpression_104 : decode cX2_readExpression 104 = .ok (.aload_n 0, 1) := by decide +kernel
theorem dX2_readExpression_105 : decode cX2_readExpression 105 = .ok (.iconst 1, 1) := by decide +kernel
theorem dX2_readExpression_106 : decode cX2_readExpression 106 = .ok (.invokevirtual 68, 3) := by decide +kernel
theorem dX2_readExpression_109 : decode cX2_readExpression 109 = .ok (.ireturn, 1) := by decide +kernel
theorem dX2_readValue_0 : decode cX2_readValue 0 = .ok (.aload_n 0, 1) := by decide +kernel
theorem dX2_readValue_1 : decode cX2_readValue 1 = .ok (.getfield 42, 3) := by decide +kernel
theorem dX2_readValue_4 : decode cX2_readValue 4 = .ok (.getfield 58, 3) := by decide +kernel
theorem dX2_readValue_7 : decode cX2_readValue 7 = .ok (.lookupswitch 163 #[(0, 41), (1, 41), (2, 92), (15, 126)], 41) := by decide +kernel
theorem dX2_readValue_48 : decode cX2_readValue 48 = .ok (.aload_n 0, 1) := by decide +kernel
theorem dX2_readValue_49 : decode cX2_readValue 49 = .ok (.getfield 42, 3) := by decide +kernel
theorem dX2_readValue_52 : decode cX2_readValue 52 = .ok (.getfield 115, 3) := by decide +kernel
theorem dX2_readValue_55 : decode cX2_readValue 55 = .ok (.sipush 9999, 3) := by decide +kernel
theorem dX2_readValue_58 : decode cX2_readValue 58 = .ok (.if_icmp .gt 10, 3) := by decide +kernel
theorem dX2_readValue_61 : decode cX2_readValue 61 = .ok (.aload_n 1, 1) := by decide +kernel
theorem dX2_readValue_62 : decode cX2_readValue 62 = .ok (.invokevirtual 177, 3) := by decide +kernel
theorem dX2_readValue_65 : decode cX2_readValue 65 = .ok (.ifCond .ne 9, 3) := by decide +kernel
theorem dX2_readValue_68 : decode cX2_readValue 68 = .ok (.aload_n 0, 1) := by decide +kernel
theorem dX2_readValue_69 : decode cX2_readValue 69 = .ok (.iconst 2, 1) := by decide +kernel
theorem dX2_readValue_70 : decode cX2_readValue 70 = .ok (.invokevirtual 68, 3) := by decide +kernel
theorem dX2_readValue_73 : decode cX2_readValue 73 = .ok (.ireturn, 1) := by decide +kernel
theorem dX2_readValue_74 : decode cX2_readValue 74 = .ok (.aload_n 1, 1) := by decide +kernel
theorem dX2_readValue_75 : decode cX2_readValue 75 = .ok (.aload_n 0, 1) := by decide +kernel
theorem dX2_readValue_76 : decode cX2_readValue 76 = .ok (.getfield 42, 3) := by decide +kernel
theorem dX2_readValue_79 : decode cX2_readValue 79 = .ok (.getfield 58, 3) := by decide +kernel
theorem dX2_readValue_82 : decode cX2_readValue 82 = .ok (.aload_n 0, 1) := by decide +kernel
theorem dX2_readValue_83 : decode cX2_readValue 83 = .ok (.getfield 42, 3) := by decide +kernel
theorem dX2_readValue_86 : decode cX2_readValue 86 = .ok (.getfield 115, 3) := by decide +kernel
theorem dX2_readValue_89 : decode cX2_readValue 89 = .ok (.invokevirtual 180, 3) := by decide +kernel
theorem dX2_readValue_92 : decode cX2_readValue 92 = .ok (.aload_n 0, 1) := by decide +kernel
theorem dX2_readValue_93 : decode cX2_readValue 93 = .ok (.iconst 0, 1) := by decide +kernel
theorem dX2_readValue_94 : decode cX2_readValue 94 = .ok (.putfield 24, 3) := by decide +kernel
theorem dX2_readValue_97 : decode cX2_readValue 97 = .ok (.iconst 1, 1) := by decide +kernel
theorem dX2_readValue_98 : decode cX2_readValue 98 = .ok (.ireturn, 1) := by decide +kernel
theorem dX2_readValue_99 : decode cX2_readValue 99 = .ok (.aload_n 0, 1) := by decide +kernel
theorem dX2_readValue_100 : decode cX2_readValue 100 = .ok (.getfield 28, 3) := by decide +kernel
theorem dX2_readValue_103 : decode cX2_readValue 103 = .ok (.ifCond .ne 9, 3) := by decide +kernel
theorem dX2_readValue_106 : decode cX2_readValue 106 = .ok (.aload_n 0, 1) := by decide +kernel
theorem dX2_readValue_107 : decode cX2_readValue 107 = .ok (.iconst 1, 1) := by decide +kernel
theorem dX2_readValue_108 : decode cX2_readValue 108 = .ok (.invokevirtual 68, 3) := by decide +kernel
theorem dX2_readValue_111 : decode cX2_readValue 111 = .ok (.ireturn, 1) := by decide +kernel
theorem dX2_readValue_112 : decode cX2_readValue 112 = .ok (.aload_n 1, 1) := by decide +kernel
theorem dX2_readValue_113 : decode cX2_readValue 113 = .ok (.invokevirtual 177, 3) := by decide +kernel
theorem dX2_readValue_116 : decode cX2_readValue 116 = .ok (.ifCond .eq 11, 3) := by decide +kernel
theorem dX2_readValue_119 : decode cX2_readValue 119 = .ok (.aload_n 0, 1) := by decide +kernel
theorem dX2_readValue_120 : decode cX2_readValue 120 = .ok (.iconst 2, 1) := by decide +kernel
theorem dX2_readValue_121 : decode cX2_readValue 121 = .ok (.invokevirtual 183, 3) := by decide +kernel
theorem dX2_readValue_124 : decode cX2_readValue 124 = .ok (.goto 8, 3) := by decide +kernel
theorem dX2_readValue_127 : decode cX2_readValue 127 = .ok (.aload_n 0, 1) := by decide +kernel
theorem dX2_readValue_128 : decode cX2_readValue 128 = .ok (.iconst 2, 1) := by decide +kernel
theorem dX2_readValue_129 : decode cX2_readValue 129 = .ok (.invokevirtual 68, 3) := by decide +kernel
theorem dX2_readValue_132 : decode cX2_readValue 132 = .ok (.ireturn, 1) := by decide +kernel
theorem dX2_readValue_133 : decode cX2_readValue 133 = .ok (.aload_n 0, 1) := by decide +kernel
theorem dX2_readValue_134 : decode cX2_readValue 134 = .ok (.getfield 21, 3) := by decide +kernel
theorem dX2_readValue_137 : decode cX2_readValue 137 = .ok (.bipush 8, 2) := by decide +kernel
theorem dX2_readValue_139 : decode cX2_readValue 139 = .ok (.if_icmp .lt 9, 3) := by decide +kernel
theorem dX2_readValue_142 : decode cX2_readValue 142 = .ok (.aload_n 0, 1) := by decide +kernel
theorem dX2_readValue_143 : decode cX2_readValue 143 = .ok (.iconst 2, 1) := by decide +kernel
theorem dX2_readValue_144 : decode cX2_readValue 144 = .ok (.invokevirtual 68, 3) := by decide +kernel
theorem dX2_readValue_147 : decode cX2_readValue 147 = .ok (.ireturn, 1) := by decide +kernel
theorem dX2_readValue_148 : decode cX2_readValue 148 = .ok (.aload_n 0, 1) := by decide +kernel
theorem dX2_readValue_149 : decode cX2_readValue 149 = .ok (.dup, 1) := by decide +kernel
theorem dX2_readValue_150 : decode cX2_readValue 150 = .ok (.getfield 21, 3) := by decide +kernel
theorem dX2_readValue_153 : decode cX2_readValue 153 = .ok (.iconst 1, 1) := by decide +kernel
theorem dX2_readValue_154 : decode cX2_readValue 154 = .ok (.iadd, 1) := by decide +kernel
theorem dX2_readValue_155 : decode cX2_readValue 155 = .ok (.putfield 21, 3) := by decide +kernel
theorem dX2_readValue_158 : decode cX2_readValue 158 = .ok (.aload_n 0, 1) := by decide +kernel
theorem dX2_readValue_159 : decode cX2_readValue 159 = .ok (.iconst 1, 1) := by decide +kernel
theorem dX2_readValue_160 : decode cX2_readValue 160 = .ok (.putfield 28, 3) := by decide +kernel
theorem dX2_readValue_163 : decode cX2_readValue 163 = .ok (.aload_n 0, 1) := by decide +kernel
theorem dX2_readValue_164 : decode cX2_readValue 164 = .ok (.bipush 15, 2) := by decide +kernel
theorem dX2_readValue_166 : decode cX2_readValue 166 = .ok (.invokevirtual 183, 3) := by decide +kernel
theorem dX2_readValue_169 : decode cX2_readValue 169 = .ok (.ireturn, 1) := by decide +kernel
theorem dX2_readValue_170 : decode cX2_readValue 170 = .ok (.aload_n 0, 1) := by decide +kernel
theorem dX2_readValue_171 : decode cX2_readValue 171 = .ok (.iconst 1, 1) := by decide +kernel
theorem dX2_readValue_172 : decode cX2_readValue 172 = .ok (.invokevirtual 68, 3) := by decide +kernel
theorem dX2_readValue_175 : decode cX2_readValue 175 = .ok (.ireturn, 1) := by decide +kernel
theorem dX2_readBehindValue_0 : decode cX2_readBehindValue 0 = .ok (.aload_n 0, 1) := by decide +kernel
theorem dX2_readBehindValue_1 : decode cX2_readBehindValue 1 = .ok (.getfield 42, 3) := by decide +kernel
theorem dX2_readBehindValue_4 : decode cX2_readBehindValue 4 = .ok (.getfield 58, 3) := by decide +kernel
theorem dX2_readBehindValue_7 : decode cX2_readBehindValue 7 = .ok (.istore_n 2, 1) := by decide +kernel
theorem dX2_readBehindValue_8 : decode cX2_readBehindValue 8 = .ok (.iload_n 2, 1) := by decide +kernel
theorem dX2_readBehindValue_9 : decode cX2_readBehindValue 9 = .ok (.bipush 16, 2) := by decide +kernel
theorem dX2_readBehindValue_11 : decode cX2_readBehindValue 11 = .ok (.if_icmp .ne 38, 3) := by decide +kernel
theorem dX2_readBehindValue_14 : decode cX2_readBehindValue 14 = .ok (.aload_n 0, 1) := by decide +kernel
theorem dX2_readBehindValue_15 : decode cX2_readBehindValue 15 = .ok (.getfield 21, 3) := by decide +kernel
theorem dX2_readBehindValue_18 : decode cX2_readBehindValue 18 = .ok (.ifCond .le 31, 3) := by decide +kernel
theorem dX2_readBehindValue_21 : decode cX2_readBehindValue 21 = .ok (.aload_n 0, 1) := by decide +kernel
theorem dX2_readBehindValue_22 : decode cX2_readBehindValue 22 = .ok (.aload_n 1, 1) := by decide +kernel
theorem dX2_readBehindValue_23 : decode cX2_readBehindValue 23 = .ok (.iconst 1, 1) := by decide +kernel
theorem dX2_readBehindValue_24 : decode cX2_readBehindValue 24 = .ok (.invokevirtual 167, 3) := by decide +kernel
theorem dX2_readBehindValue_27 : decode cX2_readBehindValue 27 = .ok (.aload_n 0, 1) := by decide +kernel
theorem dX2_readBehindValue_28 : decode cX2_readBehindValue 28 = .ok (.dup, 1) := by decide +kernel
theorem dX2_readBehindValue_29 : decode cX2_readBehindValue 29 = .ok (.getfield 17, 3) := by decide +kernel
theorem dX2_readBehindValue_32 : decode cX2_readBehindValue 32 = .ok (.iconst 1, 1) := by decide +kernel
theorem dX2_readBehindValue_33 : decode cX2_readBehindValue 33 = .ok (.isub, 1) := by decide +kernel
theorem dX2_readBehindValue_34 : decode cX2_readBehindValue 34 = .ok (.putfield 17, 3) := by decide +kernel
theorem dX2_readBehindValue_37 : decode cX2_readBehindValue 37 = .ok (.aload_n 0, 1) := by decide +kernel
theorem dX2_readBehindValue_38 : decode cX2_readBehindValue 38 = .ok (.dup, 1) := by decide +kernel
theorem dX2_readBehindValue_39 : decode cX2_readBehindValue 39 = .ok (.getfield 21, 3) := by decide +kernel
theorem dX2_readBehindValue_42 : decode cX2_readBehindValue 42 = .ok (.iconst 1, 1) := by decide +kernel
theorem dX2_readBehindValue_43 : decode cX2_readBehindValue 43 = .ok (.isub, 1) := by decide +kernel
theorem dX2_readBehindValue_44 : decode cX2_readBehindValue 44 = .ok (.putfield 21, 3) := by decide +kernel
theorem dX2_readBehindValue_47 : decode cX2_readBehindValue 47 = .ok (.iconst 1, 1) := by decide +kernel
theorem dX2_readBehindValue_48 : decode cX2_readBehindValue 48 = .ok (.ireturn, 1) := by decide +kernel
theorem dX2_readBehindValue_49 : decode cX2_readBehindValue 49 = .ok (.iload_n 2, 1) := by decide +kernel
theorem dX2_readBehindValue_50 : decode cX2_readBehindValue 50 = .ok (.iconst 3, 1) := by decide +kernel
theorem dX2_readBehindValue_51 : decode cX2_readBehindValue 51 = .ok (.if_icmp .lt 9, 3) := by decide +kernel
theorem dX2_readBehindValue_54 : decode cX2_readBehindValue 54 = .ok (.iload_n 2, 1) := by decide +kernel
theorem dX2_readBehindValue_55 : decode cX2_readBehindValue 55 = .ok (.bipush 14, 2) := by decide +kernel
theorem dX2_readBehindValue_57 : decode cX2_readBehindValue 57 = .ok (.if_icmp .le 9, 3) := by decide +kernel
theorem dX2_readBehindValue_60 : decode cX2_readBehindValue 60 = .ok (.aload_n 0, 1) := by decide +kernel
theorem dX2_readBehindValue_61 : decode cX2_readBehindValue 61 = .ok (.iconst 1, 1) := by decide +kernel
theorem dX2_readBehindValue_62 : decode cX2_readBehindValue 62 = .ok (.invokevirtual 68, 3) := by decide +kernel
theorem dX2_readBehindValue_65 : decode cX2_readBehindValue 65 = .ok (.ireturn, 1) := by decide +kernel
theorem dX2_readBehindValue_66 : decode cX2_readBehindValue 66 = .ok (.getstatic 186, 3) := by decide +kernel
theorem dX2_readBehindValue_69 : decode cX2_readBehindValue 69 = .ok (.iload_n 2, 1) := by decide +kernel
theorem dX2_readBehindValue_70 : decode cX2_readBehindValue 70 = .ok (.iaload, 1) := by decide +kernel
theorem dX2_readBehindValue_71 : decode cX2_readBehindValue 71 = .ok (.istore_n 3, 1) := by decide +kernel
theorem dX2_readBehindValue_72 : decode cX2_readBehindValue 72 = .ok (.aload_n 0, 1) := by decide +kernel
theorem dX2_readBehindValue_73 : decode cX2_readBehindValue 73 = .ok (.aload_n 1, 1) := by decide +kernel
theorem dX2_readBehindValue_74 : decode cX2_readBehindValue 74 = .ok (.iload_n 3, 1) := by decide +kernel
theorem dX2_readBehindValue_75 : decode cX2_readBehindValue 75 = .ok (.iconst 4, 1) := by decide +kernel
theorem dX2_readBehindValue_76 : decode cX2_readBehindValue 76 = .ok (.if_icmp .ne 7, 3) := by decide +kernel
theorem dX2_readBehindValue_79 : decode cX2_readBehindValue 79 = .ok (.iconst 5, 1) := by decide +kernel
theorem dX2_readBehindValue_80 : decode cX2_readBehindValue 80 = .ok (.goto 4, 3) := by decide +kernel
theorem dX2_readBehindValue_83 : decode cX2_readBehindValue 83 = .ok (.iload_n 3, 1) := by decide +kernel
theorem dX2_readBehindValue_84 : decode cX2_readBehindValue 84 = .ok (.invokevirtual 167, 3) := by decide +kernel
theorem dX2_readBehindValue_87 : decode cX2_readBehindValue 87 = .ok (.iload_n 3, 1) := by decide +kernel
theorem dX2_readBehindValue_88 : decode cX2_readBehindValue 88 = .ok (.iconst 4, 1) := by decide +kernel
theorem dX2_readBehindValue_89 : decode cX2_readBehindValue 89 = .ok (.if_icmp .ne 35, 3) := by decide +kernel
theorem dX2_readBehindValue_92 : decode cX2_readBehindValue 92 = .ok (.aload_n 0, 1) := by decide +kernel
theorem dX2_readBehindValue_93 : decode cX2_readBehindValue 93 = .ok (.getfield 17, 3) := by decide +kernel
theorem dX2_readBehindValue_96 : decode cX2_readBehindValue 96 = .ok (.ifCond .le 28, 3) := by decide +kernel
theorem dX2_readBehindValue_99 : decode cX2_readBehindValue 99 = .ok (.getstatic 186, 3) := by decide +kernel
theorem dX2_readBehindValue_102 : decode cX2_readBehindValue 102 = .ok (.aload_n 0, 1) := by decide +kernel
theorem dX2_readBehindValue_103 : decode cX2_readBehindValue 103 = .ok (.getfield 13, 3) := by decide +kernel
theorem dX2_readBehindValue_106 : decode cX2_readBehindValue 106 = .ok (.aload_n 0, 1) := by decide +kernel
theorem dX2_readBehindValue_107 : decode cX2_readBehindValue 107 = .ok (.getfield 17, 3) := by decide +kernel
theorem dX2_readBehindValue_110 : decode cX2_readBehindValue 110 = .ok (.iconst 1, 1) := by decide +kernel
theorem dX2_readBehindValue_111 : decode cX2_readBehindValue 111 = .ok (.isub, 1) := by decide +kernel
theorem dX2_readBehindValue_112 : decode cX2_readBehindValue 112 = .ok (.iaload, 1) := by decide +kernel
theorem dX2_readBehindValue_113 : decode cX2_readBehindValue 113 = .ok (.iaload, 1) := by decide +kernel
theorem dX2_readBehindValue_114 : decode cX2_readBehindValue 114 = .ok (.iconst 4, 1) := by decide +kernel
theorem dX2_readBehindValue_115 : decode cX2_readBehindValue 115 = .ok (.if_icmp .ne 9, 3) := by decide +kernel
theorem dX2_readBehindValue_118 : decode cX2_readBehindValue 118 = .ok (.aload_n 0, 1) := by decide +kernel
theorem dX2_readBehindValue_119 : decode cX2_readBehindValue 119 = .ok (.iconst 1, 1) := by decide +kernel
theorem dX2_readBehindValue_120 : decode cX2_readBehindValue 120 = .ok (.invokevirtual 68, 3) := by decide +kernel
theorem dX2_readBehindValue_123 : decode cX2_readBehindValue 123 = .ok (.ireturn, 1) := by decide +kernel
theorem dX2_readBehindValue_124 : decode cX2_readBehindValue 124 = .ok (.aload_n 1, 1) := by decide +kernel
theorem dX2_readBehindValue_125 : decode cX2_readBehindValue 125 = .ok (.invokevirtual 177, 3) := by decide +kernel
theorem dX2_readBehindValue_128 : decode cX2_readBehindValue 128 = .ok (.ifCond .ne 9, 3) := by decide +kernel
theorem dX2_readBehindValue_131 : decode cX2_readBehindValue 131 = .ok (.aload_n 0, 1) := by decide +kernel
theorem dX2_readBehindValue_132 : decode cX2_readBehindValue 132 = .ok (.iconst 2, 1) := by decide +kernel
theorem dX2_readBehindValue_133 : decode cX2_readBehindValue 133 = .ok (.invokevirtual 68, 3) := by decide +kernel
theorem dX2_readBehindValue_136 : decode cX2_readBehindValue 136 = .ok (.ireturn, 1) := by decide +kernel
theorem dX2_readBehindValue_137 : decode cX2_readBehindValue 137 = .ok (.aload_n 0, 1) := by decide +kernel
theorem dX2_readBehindValue_138 : decode cX2_readBehindValue 138 = .ok (.iconst 1, 1) := by decide +kernel
theorem dX2_readBehindValue_139 : decode cX2_readBehindValue 139 = .ok (.putfield 24, 3) := by decide +kernel
theorem dX2_readBehindValue_142 : decode cX2_readBehindValue 142 = .ok (.aload_n 0, 1) := by decide +kernel
theorem dX2_readBehindValue_143 : decode cX2_readBehindValue 143 = .ok (.iload_n 3, 1) := by decide +kernel
theorem dX2_readBehindValue_144 : decode cX2_readBehindValue 144 = .ok (.iconst 4, 1) := by decide +kernel
theorem dX2_readBehindValue_145 : decode cX2_readBehindValue 145 = .ok (.if_icmp .ge 7, 3) := by decide +kernel
theorem dX2_readBehindValue_148 : decode cX2_readBehindValue 148 = .ok (.iconst 1, 1) := by decide +kernel
theorem dX2_readBehindValue_149 : decode cX2_readBehindValue 149 = .ok (.goto 4, 3) := by decide +kernel
theorem dX2_readBehindValue_152 : decode cX2_readBehindValue 152 = .ok (.iconst 0, 1) := by decide +kernel
theorem dX2_readBehindValue_153 : decode cX2_readBehindValue 153 = .ok (.putfield 28, 3) := by decide +kernel
theorem dX2_readBehindValue_156 : decode cX2_readBehindValue 156 = .ok (.aload_n 0, 1) := by decide +kernel
theorem dX2_readBehindValue_157 : decode cX2_readBehindValue 157 = .ok (.iload_n 2, 1) := by decide +kernel
theorem dX2_readBehindValue_158 : decode cX2_readBehindValue 158 = .ok (.invokevirtual 183, 3) := by decide +kernel
theorem dX2_readBehindValue_161 : decode cX2_readBehindValue 161 = .ok (.ireturn, 1) := by decide +kernel
theorem dX2_letWait_0 : decode cX2_letWait 0 = .ok (.aload_n 0, 1) := by decide +kernel
theorem dX2_letWait_1 : decode cX2_letWait 1 = .ok (.getfield 17, 3) := by decide +kernel
theorem dX2_letWait_4 : decode cX2_letWait 4 = .ok (.aload_n 0, 1) := by decide +kernel
theorem dX2_letWait_5 : decode cX2_letWait 5 = .ok (.getfield 13, 3) := by decide +kernel
theorem dX2_letWait_8 : decode cX2_letWait 8 = .ok (.arraylength, 1) := by decide +kernel
theorem dX2_letWait_9 : decode cX2_letWait 9 = .ok (.if_icmp .lt 9, 3) := by decide +kernel
theorem dX2_letWait_12 : decode cX2_letWait 12 = .ok (.aload_n 0, 1) := by decide +kernel
theorem dX2_letWait_13 : decode cX2_letWait 13 = .ok (.iconst 2, 1) := by decide +kernel
theorem dX2_letWait_14 : decode cX2_letWait 14 = .ok (.invokevirtual 68, 3) := by decide +kernel
theorem dX2_letWait_17 : decode cX2_letWait 17 = .ok (.ireturn, 1) := by decide +kernel
theorem dX2_letWait_18 : decode cX2_letWait 18 = .ok (.aload_n 0, 1) := by decide +kernel
theorem dX2_letWait_19 : decode cX2_letWait 19 = .ok (.getfield 13, 3) := by decide +kernel
theorem dX2_letWait_22 : decode cX2_letWait 22 = .ok (.aload_n 0, 1) := by decide +kernel
theorem dX2_letWait_23 : decode cX2_letWait 23 = .ok (.getfield 17, 3) := by decide +kernel
theorem dX2_letWait_26 : decode cX2_letWait 26 = .ok (.iload_n 1, 1) := by decide +kernel
theorem dX2_letWait_27 : decode cX2_letWait 27 = .ok (.iastore, 1) := by decide +kernel
theorem dX2_letWait_28 : decode cX2_letWait 28 = .ok (.aload_n 0, 1) := by decide +kernel
theorem dX2_letWait_29 : decode cX2_letWait 29 = .ok (.dup, 1) := by decide +kernel
theorem dX2_letWait_30 : decode cX2_letWait 30 = .ok (.getfield 17, 3) := by decide +kernel
theorem dX2_letWait_33 : decode cX2_letWait 33 = .ok (.iconst 1, 1) := by decide +kernel
theorem dX2_letWait_34 : decode cX2_letWait 34 = .ok (.iadd, 1) := by decide +kernel
theorem dX2_letWait_35 : decode cX2_letWait 35 = .ok (.putfield 17, 3) := by decide +kernel
theorem dX2_letWait_38 : decode cX2_letWait 38 = .ok (.iconst 1, 1) := by decide +kernel
theorem dX2_letWait_39 : decode cX2_letWait 39 = .ok (.ireturn, 1) := by decide +kernel
theorem dX2_settle_0 : decode cX2_settle 0 = .ok (.aload_n 0, 1) := by decide +kernel
theorem dX2_settle_1 : decode cX2_settle 1 = .ok (.getfield 17, 3) := by decide +kernel
theorem dX2_settle_4 : decode cX2_settle 4 = .ok (.ifCond .le 49, 3) := by decide +kernel
theorem dX2_settle_7 : decode cX2_settle 7 = .ok (.getstatic 186, 3) := by decide +kernel
theorem dX2_settle_10 : decode cX2_settle 10 = .ok (.aload_n 0, 1) := by decide +kernel
theorem dX2_settle_11 : decode cX2_settle 11 = .ok (.getfield 13, 3) := by decide +kernel
theorem dX2_settle_14 : decode cX2_settle 14 = .ok (.aload_n 0, 1) := by decide +kernel
theorem dX2_settle_15 : decode cX2_settle 15 = .ok (.getfield 17, 3) := by decide +kernel
theorem dX2_settle_18 : decode cX2_settle 18 = .ok (.iconst 1, 1) := by decide +kernel
theorem dX2_settle_19 : decode cX2_settle 19 = .ok (.isub, 1) := by decide +kernel
theorem dX2_settle_20 : decode cX2_settle 20 = .ok (.iaload, 1) := by decide +kernel
theorem dX2_settle_21 : decode cX2_settle 21 = .ok (.iaload, 1) := by decide +kernel
theorem dX2_settle_22 : decode cX2_settle 22 = .ok (.iload_n 2, 1) := by decide +kernel
theorem dX2_settle_23 : decode cX2_settle 23 = .ok (.if_icmp .lt 30, 3) := by decide +kernel
theorem dX2_settle_26 : decode cX2_settle 26 = .ok (.aload_n 0, 1) := by decide +kernel
theorem dX2_settle_27 : decode cX2_settle 27 = .ok (.dup, 1) := by decide +kernel
theorem dX2_settle_28 : decode cX2_settle 28 = .ok (.getfield 17, 3) := by decide +kernel
theorem dX2_settle_31 : decode cX2_settle 31 = .ok (.iconst 1, 1) := by decide +kernel
theorem dX2_settle_32 : decode cX2_settle 32 = .ok (.isub, 1) := by decide +kernel
theorem dX2_settle_33 : decode cX2_settle 33 = .ok (.putfield 17, 3) := by decide +kernel
theorem dX2_settle_36 : decode cX2_settle 36 = .ok (.aload_n 1, 1) := by decide +kernel
theorem dX2_settle_37 : decode cX2_settle 37 = .ok (.aload_n 0, 1) := by decide +kernel
theorem dX2_settle_38 : decode cX2_settle 38 = .ok (.getfield 13, 3) := by decide +kernel
theorem dX2_settle_41 : decode cX2_settle 41 = .ok (.aload_n 0, 1) := by decide +kernel
theorem dX2_settle_42 : decode cX2_settle 42 = .ok (.getfield 17, 3) := by decide +kernel
theorem dX2_settle_45 : decode cX2_settle 45 = .ok (.iaload, 1) := by decide +kernel
theorem dX2_settle_46 : decode cX2_settle 46 = .ok (.iconst 0, 1) := by decide +kernel
theorem dX2_settle_47 : decode cX2_settle 47 = .ok (.invokevirtual 180, 3) := by decide +kernel
theorem dX2_settle_50 : decode cX2_settle 50 = .ok (.goto (-50), 3) := by decide +kernel
theorem dX2_settle_53 : decode cX2_settle 53 = .ok (.return_, 1) := by decide +kernel
theorem dX3_init_0 : decode cX3_init 0 = .ok (.aload_n 0, 1) := by decide +kernel
theorem dX3_init_1 : decode cX3_init 1 = .ok (.invokespecial 3, 3) := by decide +kernel
theorem dX3_init_4 : decode cX3_init 4 = .ok (.aload_n 0, 1) := by decide +kernel
theorem dX3_init_5 : decode cX3_init 5 = .ok (.iconst 0, 1) := by decide +kernel
theorem dX3_init_6 : decode cX3_init 6 = .ok (.putfield 9, 3) := by decide +kernel
theorem dX3_init_9 : decode cX3_init 9 = .ok (.aload_n 0, 1) := by decide +kernel
theorem dX3_init_10 : decode cX3_init 10 = .ok (.iload_n 1, 1) := by decide +kernel
theorem dX3_init_11 : decode cX3_init 11 = .ok (.putfield 15, 3) := by decide +kernel
theorem dX3_init_14 : decode cX3_init 14 = .ok (.aload_n 0, 1) := by decide +kernel
theorem dX3_init_15 : decode cX3_init 15 = .ok (.iload_n 2, 1) := by decide +kernel
theorem dX3_init_16 : decode cX3_init 16 = .ok (.putfield 18, 3) := by decide +kernel
theorem dX3_init_19 : decode cX3_init 19 = .ok (.aload_n 0, 1) := by decide +kernel
theorem dX3_init_20 : decode cX3_init 20 = .ok (.iload_n 1, 1) := by decide +kernel
theorem dX3_init_21 : decode cX3_init 21 = .ok (.newarray .int, 2) := by decide +kernel
theorem dX3_init_23 : decode cX3_init 23 = .ok (.putfield 21, 3) := by decide +kernel
theorem dX3_init_26 : decode cX3_init 26 = .ok (.aload_n 0, 1) := by decide +kernel
theorem dX3_init_27 : decode cX3_init 27 = .ok (.iload_n 1, 1) := by decide +kernel
theorem dX3_init_28 : decode cX3_init 28 = .ok (.iload_n 2, 1) := by decide +kernel
theorem dX3_init_29 : decode cX3_init 29 = .ok (.imul, 1) := by decide +kernel
theorem dX3_init_30 : decode cX3_init 30 = .ok (.newarray .int, 2) := by decide +kernel
theorem dX3_init_32 : decode cX3_init 32 = .ok (.putfield 25, 3) := by decide +kernel
theorem dX3_init_35 : decode cX3_init 35 = .ok (.return_, 1) := by decide +kernel
theorem dX3_find_0 : decode cX3_find 0 = .ok (.iconst 0, 1) := by decide +kernel
theorem dX3_find_1 : decode cX3_find 1 = .ok (.istore_n 2, 1) := by decide +kernel
theorem dX3_find_2 : decode cX3_find 2 = .ok (.iload_n 2, 1) := by decide +kernel
theorem dX3_find_3 : decode cX3_find 3 = .ok (.aload_n 0, 1) := by decide +kernel
theorem dX3_find_4 : decode cX3_find 4 = .ok (.getfield 9, 3) := by decide +kernel
theorem dX3_find_7 : decode cX3_find 7 = .ok (.if_icmp .ge 29, 3) := by decide +kernel
theorem dX3_find_10 : decode cX3_find 10 = .ok (.iload_n 2, 1) := by decide +kernel
theorem dX3_find_11 : decode cX3_find 11 = .ok (.aload_n 0, 1) := by decide +kernel
theorem dX3_find_12 : decode cX3_find 12 = .ok (.getfield 15, 3) := by decide +kernel
theorem dX3_find_15 : decode cX3_find 15 = .ok (.if_icmp .ge 21, 3) := by decide +kernel
theorem dX3_find_18 : decode cX3_find 18 = .ok (.aload_n 0, 1) := by decide +kernel
theorem dX3_find_19 : decode cX3_find 19 = .ok (.getfield 21, 3) := by decide +kernel
theorem dX3_find_22 : decode cX3_find 22 = .ok (.iload_n 2, 1) := by decide +kernel
theorem dX3_find_23 : decode cX3_find 23 = .ok (.iaload, 1) := by decide +kernel
theorem dX3_find_24 : decode cX3_find 24 = .ok (.iload_n 1, 1) := by decide +kernel
theorem dX3_find_25 : decode cX3_find 25 = .ok (.if_icmp .ne 5, 3) := by decide +kernel
theorem dX3_find_28 : decode cX3_find 28 = .ok (.iload_n 2, 1) := by decide +kernel
theorem dX3_find_29 : decode cX3_find 29 = .ok (.ireturn, 1) := by decide +kernel
theorem dX3_find_30 : decode cX3_find 30 = .ok (.iinc 2 1, 3) := by decide +kernel
theorem dX3_find_33 : decode cX3_find 33 = .ok (.goto (-31), 3) := by decide +kernel
theorem dX3_find_36 : decode cX3_find 36 = .ok (.iconst (-1), 1) := by decide +kernel
theorem dX3_find_37 : decode cX3_find 37 = .ok (.ireturn, 1) := by decide +kernel
theorem dX3_open_0 : decode cX3_open 0 = .ok (.aload_n 0, 1) := by decide +kernel
theorem dX3_open_1 : decode cX3_open 1 = .ok (.getfield 9, 3) := by decide +kernel
theorem dX3_open_4 : decode cX3_open 4 = .ok (.aload_n 0, 1) := by decide +kernel
theorem dX3_open_5 : decode cX3_open 5 = .ok (.getfield 15, 3) := by decide +kernel
theorem dX3_open_8 : decode cX3_open 8 = .ok (.if_icmp .lt 4, 3) := by decide +kernel
theorem dX3_open_11 : decode cX3_open 11 = .ok (.return_, 1) := by decide +kernel
theorem dX3_open_12 : decode cX3_open 12 = .ok (.aload_n 0, 1) := by decide +kernel
theorem dX3_open_13 : decode cX3_open 13 = .ok (.getfield 21, 3) := by decide +kernel
theorem dX3_open_16 : decode cX3_open 16 = .ok (.aload_n 0, 1) := by decide +kernel
theorem dX3_open_17 : decode cX3_open 17 = .ok (.getfield 9, 3) := by decide +kernel
theorem dX3_open_20 : decode cX3_open 20 = .ok (.iload_n 1, 1) := by decide +kernel
theorem dX3_open_21 : decode cX3_open 21 = .ok (.iastore, 1) := by decide +kernel
theorem dX3_open_22 : decode cX3_open 22 = .ok (.iconst 0, 1) := by decide +kernel
theorem dX3_open_23 : decode cX3_open 23 = .ok (.istore_n 2, 1) := by decide +kernel
theorem dX3_open_24 : decode cX3_open 24 = .ok (.iload_n 2, 1) := by decide +kernel
theorem dX3_open_25 : decode cX3_open 25 = .ok (.aload_n 0, 1) := by decide +kernel
theorem dX3_open_26 : decode cX3_open 26 = .ok (.getfield 18, 3) := by decide +kernel
theorem dX3_open_29 : decode cX3_open 29 = .ok (.if_icmp .ge 26, 3) := by decide +kernel
theorem dX3_open_32 : decode cX3_open 32 = .ok (.aload_n 0, 1) := by decide +kernel
theorem dX3_open_33 : decode cX3_open 33 = .ok (.getfield 25, 3) := by decide +kernel
theorem dX3_open_36 : decode cX3_open 36 = .ok (.aload_n 0, 1) := by decide +kernel
theorem dX3_open_37 : decode cX3_open 37 = .ok (.getfield 9, 3) := by decide +kernel
theorem dX3_open_40 : decode cX3_open 40 = .ok (.aload_n 0, 1) := by decide +kernel
theorem dX3_open_41 : decode cX3_open 41 = .ok (.getfield 18, 3) := by decide +kernel
theorem dX3_open_44 : decode cX3_open 44 = .ok (.imul, 1) := by decide +kernel
theorem dX3_open_45 : decode cX3_open 45 = .ok (.iload_n 2, 1) := by decide +kernel
theorem dX3_open_46 : decode cX3_open 46 = .ok (.iadd, 1) := by decide +kernel
theorem dX3_open_47 : decode cX3_open 47 = .ok (.iconst 0, 1) := by decide +kernel
theorem dX3_open_48 : decode cX3_open 48 = .ok (.iastore, 1) := by decide +kernel
theorem dX3_open_49 : decode cX3_open 49 = .ok (.iinc 2 1, 3) := by decide +kernel
theorem dX3_open_52 : decode cX3_open 52 = .ok (.goto (-28), 3) := by decide +kernel
theorem dX3_open_55 : decode cX3_open 55 = .ok (.return_, 1) := by decide +kernel
theorem dX3_put_0 : decode cX3_put 0 = .ok (.aload_n 0, 1) := by decide +kernel
theorem dX3_put_1 : decode cX3_put 1 = .ok (.getfield 9, 3) := by decide +kernel
theorem dX3_put_4 : decode cX3_put 4 = .ok (.aload_n 0, 1) := by decide +kernel
theorem dX3_put_5 : decode cX3_put 5 = .ok (.getfield 15, 3) := by decide +kernel
theorem dX3_put_8 : decode cX3_put 8 = .ok (.if_icmp .ge 32, 3) := by decide +kernel
theorem dX3_put_11 : decode cX3_put 11 = .ok (.iload_n 1, 1) := by decide +kernel
theorem dX3_put_12 : decode cX3_put 12 = .ok (.ifCond .lt 28, 3) := by decide +kernel
theorem dX3_put_15 : decode cX3_put 15 = .ok (.iload_n 1, 1) := by decide +kernel
theorem dX3_put_16 : decode cX3_put 16 = .ok (.aload_n 0, 1) := by decide +kernel
theorem dX3_put_17 : decode cX3_put 17 = .ok (.getfield 18, 3) := by decide +kernel
theorem dX3_put_20 : decode cX3_put 20 = .ok (.if_icmp .ge 20, 3) := by decide +kernel
theorem dX3_put_23 : decode cX3_put 23 = .ok (.aload_n 0, 1) := by decide +kernel
theorem dX3_put_24 : decode cX3_put 24 = .ok (.getfield 25, 3) := by decide +kernel
theorem dX3_put_27 : decode cX3_put 27 = .ok (.aload_n 0, 1) := by decide +kernel
theorem dX3_put_28 : decode cX3_put 28 = .ok (.getfield 9, 3) := by decide +kernel
theorem dX3_put_31 : decode cX3_put 31 = .ok (.aload_n 0, 1) := by decide +kernel
theorem dX3_put_32 : decode cX3_put 32 = .ok (.getfield 18, 3) := by decide +kernel
theorem dX3_put_35 : decode cX3_put 35 = .ok (.imul, 1) := by decide +kernel
theorem dX3_put_36 : decode cX3_put 36 = .ok (.iload_n 1, 1) := by decide +kernel
theorem dX3_put_37 : decode cX3_put 37 = .ok (.iadd, 1) := by decide +kernel
theorem dX3_put_38 : decode cX3_put 38 = .ok (.iload_n 2, 1) := by decide +kernel
theorem dX3_put_39 : decode cX3_put 39 = .ok (.iastore, 1) := by decide +kernel
theorem dX3_put_40 : decode cX3_put 40 = .ok (.return_, 1) := by decide +kernel
theorem dX3_close_0 : decode cX3_close 0 = .ok (.aload_n 0, 1) := by decide +kernel
theorem dX3_close_1 : decode cX3_close 1 = .ok (.dup, 1) := by decide +kernel
theorem dX3_close_2 : decode cX3_close 2 = .ok (.getfield 9, 3) := by decide +kernel
theorem dX3_close_5 : decode cX3_close 5 = .ok (.iconst 1, 1) := by decide +kernel
theorem dX3_close_6 : decode cX3_close 6 = .ok (.iadd, 1) := by decide +kernel
theorem dX3_close_7 : decode cX3_close 7 = .ok (.putfield 9, 3) := by decide +kernel
theorem dX3_close_10 : decode cX3_close 10 = .ok (.iconst 1, 1) := by decide +kernel
theorem dX3_close_11 : decode cX3_close 11 = .ok (.ireturn, 1) := by decide +kernel
theorem dX3_at_0 : decode cX3_at 0 = .ok (.iload_n 1, 1) := by decide +kernel
theorem dX3_at_1 : decode cX3_at 1 = .ok (.ifCond .lt 35, 3) := by decide +kernel
theorem dX3_at_4 : decode cX3_at 4 = .ok (.iload_n 1, 1) := by decide +kernel
theorem dX3_at_5 : decode cX3_at 5 = .ok (.aload_n 0, 1) := by decide +kernel
theorem dX3_at_6 : decode cX3_at 6 = .ok (.getfield 9, 3) := by decide +kernel
theorem dX3_at_9 : decode cX3_at 9 = .ok (.if_icmp .ge 27, 3) := by decide +kernel
theorem dX3_at_12 : decode cX3_at 12 = .ok (.iload_n 1, 1) := by decide +kernel
theorem dX3_at_13 : decode cX3_at 13 = .ok (.aload_n 0, 1) := by decide +kernel
theorem dX3_at_14 : decode cX3_at 14 = .ok (.getfield 15, 3) := by decide +kernel
theorem dX3_at_17 : decode cX3_at 17 = .ok (.if_icmp .ge 19, 3) := by decide +kernel
theorem dX3_at_20 : decode cX3_at 20 = .ok (.iload_n 2, 1) := by decide +kernel
theorem dX3_at_21 : decode cX3_at 21 = .ok (.ifCond .lt 15, 3) := by decide +kernel
theorem dX3_at_24 : decode cX3_at 24 = .ok (.iload_n 2, 1) := by decide +kernel
theorem dX3_at_25 : decode cX3_at 25 = .ok (.aload_n 0, 1) := by decide +kernel
theorem dX3_at_26 : decode cX3_at 26 = .ok (.getfield 18, 3) := by decide +kernel
theorem dX3_at_29 : decode cX3_at 29 = .ok (.if_icmp .ge 7, 3) := by decide +kernel
theorem dX3_at_32 : decode cX3_at 32 = .ok (.iconst 1, 1) := by decide +kernel
theorem dX3_at_33 : decode cX3_at 33 = .ok (.goto 4, 3) := by decide +kernel
theorem dX3_at_36 : decode cX3_at 36 = .ok (.iconst 0, 1) := by decide +kernel
theorem dX3_at_37 : decode cX3_at 37 = .ok (.istore_n 3, 1) := by decide +kernel
theorem dX3_at_38 : decode cX3_at 38 = .ok (.iload_n 3, 1) := by decide +kernel
theorem dX3_at_39 : decode cX3_at 39 = .ok (.ifCond .eq 19, 3) := by decide +kernel
theorem dX3_at_42 : decode cX3_at 42 = .ok (.aload_n 0, 1) := by decide +kernel
theorem dX3_at_43 : decode cX3_at 43 = .ok (.getfield 25, 3) := by decide +kernel
theorem dX3_at_46 : decode cX3_at 46 = .ok (.iload_n 1, 1) := by decide +kernel
theorem dX3_at_47 : decode cX3_at 47 = .ok (.aload_n 0, 1) := by decide +kernel
theorem dX3_at_48 : decode cX3_at 48 = .ok (.getfield 18, 3) := by decide +kernel
theorem dX3_at_51 : decode cX3_at 51 = .ok (.imul, 1) := by decide +kernel
theorem dX3_at_52 : decode cX3_at 52 = .ok (.iload_n 2, 1) := by decide +kernel
theorem dX3_at_53 : decode cX3_at 53 = .ok (.iadd, 1) := by decide +kernel
theorem dX3_at_54 : decode cX3_at 54 = .ok (.iaload, 1) := by decide +kernel
theorem dX3_at_55 : decode cX3_at 55 = .ok (.goto 4, 3) := by decide +kernel
theorem dX3_at_58 : decode cX3_at 58 = .ok (.iconst 0, 1) := by decide +kernel
theorem dX3_at_59 : decode cX3_at 59 = .ok (.ireturn, 1) := by decide +kernel
theorem dX4_init_0 : decode cX4_init 0 = .ok (.aload_n 0, 1) := by decide +kernel
theorem dX4_init_1 : decode cX4_init 1 = .ok (.invokespecial 5, 3) := by decide +kernel
theorem dX4_init_4 : decode cX4_init 4 = .ok (.aload_n 0, 1) := by decide +kernel
theorem dX4_init_5 : decode cX4_init 5 = .ok (.new 11, 3) := by decide +kernel
theorem dX4_init_8 : decode cX4_init 8 = .ok (.dup, 1) := by decide +kernel
theorem dX4_init_9 : decode cX4_init 9 = .ok (.invokespecial 13, 3) := by decide +kernel
theorem dX4_init_12 : decode cX4_init 12 = .ok (.putfield 14, 3) := by decide +kernel
theorem dX4_init_15 : decode cX4_init 15 = .ok (.aload_n 0, 1) := by decide +kernel
theorem dX4_init_16 : decode cX4_init 16 = .ok (.sipush 2501, 3) := by decide +kernel
theorem dX4_init_19 : decode cX4_init 19 = .ok (.newarray .long, 2) := by decide +kernel
theorem dX4_init_21 : decode cX4_init 21 = .ok (.putfield 18, 3) := by decide +kernel
theorem dX4_init_24 : decode cX4_init 24 = .ok (.aload_n 0, 1) := by decide +kernel
theorem dX4_init_25 : decode cX4_init 25 = .ok (.sipush 2501, 3) := by decide +kernel
theorem dX4_init_28 : decode cX4_init 28 = .ok (.newarray .long, 2) := by decide +kernel
theorem dX4_init_30 : decode cX4_init 30 = .ok (.putfield 22, 3) := by decide +kernel
theorem dX4_init_33 : decode cX4_init 33 = .ok (.aload_n 0, 1) := by decide +kernel
theorem dX4_init_34 : decode cX4_init 34 = .ok (.sipush 2501, 3) := by decide +kernel
theorem dX4_init_37 : decode cX4_init 37 = .ok (.newarray .int, 2) := by decide +kernel
theorem dX4_init_39 : decode cX4_init 39 = .ok (.putfield 25, 3) := by decide +kernel
theorem dX4_init_42 : decode cX4_init 42 = .ok (.aload_n 0, 1) := by decide +kernel
theorem dX4_init_43 : decode cX4_init 43 = .ok (.sipush 2501, 3) := by decide +kernel
theorem dX4_init_46 : decode cX4_init 46 = .ok (.newarray .int, 2) := by decide +kernel
theorem dX4_init_48 : decode cX4_init 48 = .ok (.putfield 29, 3) := by decide +kernel
theorem dX4_init_51 : decode cX4_init 51 = .ok (.aload_n 0, 1) := by decide +kernel
theorem dX4_init_52 : decode cX4_init 52 = .ok (.iconst 0, 1) := by decide +kernel
theorem dX4_init_53 : decode cX4_init 53 = .ok (.putfield 32, 3) := by decide +kernel
theorem dX4_init_56 : decode cX4_init 56 = .ok (.aload_n 0, 1) := by decide +kernel
theorem dX4_init_57 : decode cX4_init 57 = .ok (.iconst 0, 1) := by decide +kernel
theorem dX4_init_58 : decode cX4_init 58 = .ok (.putfield 36, 3) := by decide +kernel
theorem dX4_init_61 : decode cX4_init 61 = .ok (.aload_n 0, 1) := by decide +kernel
theorem dX4_init_62 : decode cX4_init 62 = .ok (.iconst 0, 1) := by decide +kernel
theorem dX4_init_63 : decode cX4_init 63 = .ok (.putfield 39, 3) := by decide +kernel
theorem dX4_init_66 : decode cX4_init 66 = .ok (.aload_n 0, 1) := by decide +kernel
theorem dX4_init_67 : decode cX4_init 67 = .ok (.iconst (-1), 1) := by decide +kernel
theorem dX4_init_68 : decode cX4_init 68 = .ok (.putfield 42, 3) := by decide +kernel
theorem dX4_init_71 : decode cX4_init 71 = .ok (.aload_n 0, 1) := by decide +kernel
theorem dX4_init_72 : decode cX4_init 72 = .ok (.iconst (-1), 1) := by decide +kernel
theorem dX4_init_73 : decode cX4_init 73 = .ok (.putfield 45, 3) := by decide +kernel
theorem dX4_init_76 : decode cX4_init 76 = .ok (.aload_n 0, 1) := by decide +kernel
theorem dX4_init_77 : decode cX4_init 77 = .ok (.iconst 0, 1) := by decide +kernel
theorem dX4_init_78 : decode cX4_init 78 = .ok (.putfield 48, 3) := by decide +kernel
theorem dX4_init_81 : decode cX4_init 81 = .ok (.aload_n 0, 1) := by decide +kernel
theorem dX4_init_82 : decode cX4_init 82 = .ok (.ldc2_w 51, 3) := by decide +kernel
theorem dX4_init_85 : decode cX4_init 85 = .ok (.putfield 53, 3) := by decide +kernel
theorem dX4_init_88 : decode cX4_init 88 = .ok (.aload_n 0, 1) := by decide +kernel
theorem dX4_init_89 : decode cX4_init 89 = .ok (.iconst 0, 1) := by decide +kernel
theorem dX4_init_90 : decode cX4_init 90 = .ok (.putfield 57, 3) := by decide +kernel
theorem dX4_init_93 : decode cX4_init 93 = .ok (.aload_n 0, 1) := by decide +kernel
theorem dX4_init_94 : decode cX4_init 94 = .ok (.iconst 0, 1) := by decide +kernel
theorem dX4_init_95 : decode cX4_init 95 = .ok (.putfield 60, 3) := by decide +kernel
theorem dX4_init_98 : decode cX4_init 98 = .ok (.aload_n 0, 1) := by decide +kernel
theorem dX4_init_99 : decode cX4_init 99 = .ok (.aload_n 1, 1) := by decide +kernel
theorem dX4_init_100 : decode cX4_init 100 = .ok (.putfield 63, 3) := by decide +kernel
theorem dX4_init_103 : decode cX4_init 103 = .ok (.return_, 1) := by decide +kernel
theorem dX4_seek_0 : decode cX4_seek 0 = .ok (.aload_n 0, 1) := by decide +kernel
theorem dX4_seek_1 : decode cX4_seek 1 = .ok (.getfield 39, 3) := by decide +kernel
theorem dX4_seek_4 : decode cX4_seek 4 = .ok (.aload_n 0, 1) := by decide +kernel
theorem dX4_seek_5 : decode cX4_seek 5 = .ok (.getfield 63, 3) := by decide +kernel
theorem dX4_seek_8 : decode cX4_seek 8 = .ok (.getfield 67, 3) := by decide +kernel
theorem dX4_seek_11 : decode cX4_seek 11 = .ok (.if_icmp .ne 27, 3) := by decide +kernel
theorem dX4_seek_14 : decode cX4_seek 14 = .ok (.aload_n 0, 1) := by decide +kernel
theorem dX4_seek_15 : decode cX4_seek 15 = .ok (.getfield 42, 3) := by decide +kernel
theorem dX4_seek_18 : decode cX4_seek 18 = .ok (.iload_n 1, 1) := by decide +kernel
theorem dX4_seek_19 : decode cX4_seek 19 = .ok (.if_icmp .ne 19, 3) := by decide +kernel
theorem dX4_seek_22 : decode cX4_seek 22 = .ok (.aload_n 0, 1) := by decide +kernel
theorem dX4_seek_23 : decode cX4_seek 23 = .ok (.getfield 45, 3) := by decide +kernel
theorem dX4_seek_26 : decode cX4_seek 26 = .ok (.iload_n 2, 1) := by decide +kernel
theorem dX4_seek_27 : decode cX4_seek 27 = .ok (.if_icmp .ne 11, 3) := by decide +kernel
theorem dX4_seek_30 : decode cX4_seek 30 = .ok (.aload_n 0, 1) := by decide +kernel
theorem dX4_seek_31 : decode cX4_seek 31 = .ok (.getfield 48, 3) := by decide +kernel
theorem dX4_seek_34 : decode cX4_seek 34 = .ok (.iload_n 3, 1) := by decide +kernel
theorem dX4_seek_35 : decode cX4_seek 35 = .ok (.if_icmp .eq 97, 3) := by decide +kernel
theorem dX4_seek_38 : decode cX4_seek 38 = .ok (.aload_n 0, 1) := by decide +kernel
theorem dX4_seek_39 : decode cX4_seek 39 = .ok (.aload_n 0, 1) := by decide +kernel
theorem dX4_seek_40 : decode cX4_seek 40 = .ok (.getfield 63, 3) := by decide +kernel
theorem dX4_seek_43 : decode cX4_seek 43 = .ok (.getfield 67, 3) := by decide +kernel
theorem dX4_seek_46 : decode cX4_seek 46 = .ok (.putfield 39, 3) := by decide +kernel
theorem dX4_seek_49 : decode cX4_seek 49 = .ok (.aload_n 0, 1) := by decide +kernel
theorem dX4_seek_50 : decode cX4_seek 50 = .ok (.iload_n 1, 1) := by decide +kernel
theorem dX4_seek_51 : decode cX4_seek 51 = .ok (.putfield 42, 3) := by decide +kernel
theorem dX4_seek_54 : decode cX4_seek 54 = .ok (.aload_n 0, 1) := by decide +kernel
theorem dX4_seek_55 : decode cX4_seek 55 = .ok (.iload_n 2, 1) := by decide +kernel
theorem dX4_seek_56 : decode cX4_seek 56 = .ok (.putfield 45, 3) := by decide +kernel
theorem dX4_seek_59 : decode cX4_seek 59 = .ok (.aload_n 0, 1) := by decide +kernel
theorem dX4_seek_60 : decode cX4_seek 60 = .ok (.iload_n 3, 1) := by decide +kernel
theorem dX4_seek_61 : decode cX4_seek 61 = .ok (.putfield 48, 3) := by decide +kernel
theorem dX4_seek_64 : decode cX4_seek 64 = .ok (.aload_n 0, 1) := by decide +kernel
theorem dX4_seek_65 : decode cX4_seek 65 = .ok (.invokevirtual 70, 3) := by decide +kernel
theorem dX4_seek_68 : decode cX4_seek 68 = .ok (.iconst 0, 1) := by decide +kernel
theorem dX4_seek_69 : decode cX4_seek 69 = .ok (.istore 4, 2) := by decide +kernel
theorem dX4_seek_71 : decode cX4_seek 71 = .ok (.iload 4, 2) := by decide +kernel
theorem dX4_seek_73 : decode cX4_seek 73 = .ok (.aload_n 0, 1) := by decide +kernel
theorem dX4_seek_74 : decode cX4_seek 74 = .ok (.getfield 63, 3) := by decide +kernel
theorem dX4_seek_77 : decode cX4_seek 77 = .ok (.getfield 73, 3) := by decide +kernel
theorem dX4_seek_80 : decode cX4_seek 80 = .ok (.iconst 0, 1) := by decide +kernel
theorem dX4_seek_81 : decode cX4_seek 81 = .ok (.invokevirtual 77, 3) := by decide +kernel
theorem dX4_seek_84 : decode cX4_seek 84 = .ok (.if_icmp .ge 44, 3) := by decide +kernel
theorem dX4_seek_87 : decode cX4_seek 87 = .ok (.iconst 0, 1) := by decide +kernel
theorem dX4_seek_88 : decode cX4_seek 88 = .ok (.istore 5, 2) := by decide +kernel
theorem dX4_seek_90 : decode cX4_seek 90 = .ok (.iload 5, 2) := by decide +kernel
theorem dX4_seek_92 : decode cX4_seek 92 = .ok (.aload_n 0, 1) := by decide +kernel
theorem dX4_seek_93 : decode cX4_seek 93 = .ok (.getfield 32, 3) := by decide +kernel
theorem dX4_seek_96 : decode cX4_seek 96 = .ok (.if_icmp .ge 22, 3) := by decide +kernel
theorem dX4_seek_99 : decode cX4_seek 99 = .ok (.aload_n 0, 1) := by decide +kernel
theorem dX4_seek_100 : decode cX4_seek 100 = .ok (.aload_n 0, 1) := by decide +kernel
theorem dX4_seek_101 : decode cX4_seek 101 = .ok (.getfield 25, 3) := by decide +kernel
theorem dX4_seek_104 : decode cX4_seek 104 = .ok (.iload 5, 2) := by decide +kernel
theorem dX4_seek_106 : decode cX4_seek 106 = .ok (.iaload, 1) := by decide +kernel
theorem dX4_seek_107 : decode cX4_seek 107 = .ok (.iload 4, 2) := by decide +kernel
theorem dX4_seek_109 : decode cX4_seek 109 = .ok (.invokevirtual 82, 3) := by decide +kernel
theorem dX4_seek_112 : decode cX4_seek 112 = .ok (.iinc 5 1, 3) := by decide +kernel
theorem dX4_seek_115 : decode cX4_seek 115 = .ok (.goto (-25), 3) := by decide +kernel
theorem dX4_seek_118 : decode cX4_seek 118 = .ok (.aload_n 0, 1) := by decide +kernel
theorem dX4_seek_119 : decode cX4_seek 119 = .ok (.invokevirtual 86, 3) := by decide +kernel
theorem dX4_seek_122 : decode cX4_seek 122 = .ok (.iinc 4 1, 3) := by decide +kernel
theorem dX4_seek_125 : decode cX4_seek 125 = .ok (.goto (-54), 3) := by decide +kernel
theorem dX4_seek_128 : decode cX4_seek 128 = .ok (.aload_n 0, 1) := by decide +kernel
theorem dX4_seek_129 : decode cX4_seek 129 = .ok (.invokevirtual 89, 3) := by decide +kernel
theorem dX4_seek_132 : decode cX4_seek 132 = .ok (.aload_n 0, 1) := by decide +kernel
theorem dX4_seek_133 : decode cX4_seek 133 = .ok (.getfield 53, 3) := by decide +kernel
theorem dX4_seek_136 : decode cX4_seek 136 = .ok (.ldc2_w 51, 3) := by decide +kernel
theorem dX4_seek_139 : decode cX4_seek 139 = .ok (.lcmp, 1) := by decide +kernel
theorem dX4_seek_140 : decode cX4_seek 140 = .ok (.ifCond .ne 8, 3) := by decide +kernel
theorem dX4_seek_143 : decode cX4_seek 143 = .ok (.bipush (-2), 2) := by decide +kernel
theorem dX4_seek_145 : decode cX4_seek 145 = .ok (.goto 11, 3) := by decide +kernel
theorem dX4_seek_148 : decode cX4_seek 148 = .ok (.aload_n 0, 1) := by decide +kernel
theorem dX4_seek_149 : decode cX4_seek 149 = .ok (.getfield 53, 3) := by decide +kernel
theorem dX4_seek_152 : decode cX4_seek 152 = .ok (.bipush 24, 2) := by decide +kernel
theorem dX4_seek_154 : decode cX4_seek 154 = .ok (.lshr, 1) := by decide +kernel
theorem dX4_seek_155 : decode cX4_seek 155 = .ok (.l2i, 1) := by decide +kernel
theorem dX4_seek_156 : decode cX4_seek 156 = .ok (.ireturn, 1) := by decide +kernel
theorem dX4_paceIn_0 : decode cX4_paceIn 0 = .ok (.aload_n 0, 1) := by decide +kernel
theorem dX4_paceIn_1 : decode cX4_paceIn 1 = .ok (.getfield 63, 3) := by decide +kernel
theorem dX4_paceIn_4 : decode cX4_paceIn 4 = .ok (.getfield 73, 3) := by decide +kernel
theorem dX4_paceIn_7 : decode cX4_paceIn 7 = .ok (.iconst 0, 1) := by decide +kernel
theorem dX4_paceIn_8 : decode cX4_paceIn 8 = .ok (.invokevirtual 77, 3) := by decide +kernel
theorem dX4_paceIn_11 : decode cX4_paceIn 11 = .ok (.iconst 1, 1) := by decide +kernel
theorem dX4_paceIn_12 : decode cX4_paceIn 12 = .ok (.isub, 1) := by decide +kernel
theorem dX4_paceIn_13 : decode cX4_paceIn 13 = .ok (.iload_n 1, 1) := by decide +kernel
theorem dX4_paceIn_14 : decode cX4_paceIn 14 = .ok (.isub, 1) := by decide +kernel
theorem dX4_paceIn_15 : decode cX4_paceIn 15 = .ok (.istore_n 2, 1) := by decide +kernel
theorem dX4_paceIn_16 : decode cX4_paceIn 16 = .ok (.iload_n 2, 1) := by decide +kernel
theorem dX4_paceIn_17 : decode cX4_paceIn 17 = .ok (.ifCond .lt 20, 3) := by decide +kernel
theorem dX4_paceIn_20 : decode cX4_paceIn 20 = .ok (.iload_n 2, 1) := by decide +kernel
theorem dX4_paceIn_21 : decode cX4_paceIn 21 = .ok (.bipush 6, 2) := by decide +kernel
theorem dX4_paceIn_23 : decode cX4_paceIn 23 = .ok (.if_icmp .ge 14, 3) := by decide +kernel
theorem dX4_paceIn_26 : decode cX4_paceIn 26 = .ok (.aload_n 0, 1) := by decide +kernel
theorem dX4_paceIn_27 : decode cX4_paceIn 27 = .ok (.getfield 53, 3) := by decide +kernel
theorem dX4_paceIn_30 : decode cX4_paceIn 30 = .ok (.ldc2_w 51, 3) := by decide +kernel
theorem dX4_paceIn_33 : decode cX4_paceIn 33 = .ok (.lcmp, 1) := by decide +kernel
theorem dX4_paceIn_34 : decode cX4_paceIn 34 = .ok (.ifCond .ne 6, 3) := by decide +kernel
theorem dX4_paceIn_37 : decode cX4_paceIn 37 = .ok (.bipush (-2), 2) := by decide +kernel
theorem dX4_paceIn_39 : decode cX4_paceIn 39 = .ok (.ireturn, 1) := by decide +kernel
theorem dX4_paceIn_40 : decode cX4_paceIn 40 = .ok (.aload_n 0, 1) := by decide +kernel
theorem dX4_paceIn_41 : decode cX4_paceIn 41 = .ok (.getfield 53, 3) := by decide +kernel
theorem dX4_paceIn_44 : decode cX4_paceIn 44 = .ok (.iconst 4, 1) := by decide +kernel
theorem dX4_paceIn_45 : decode cX4_paceIn 45 = .ok (.iload_n 2, 1) := by decide +kernel
theorem dX4_paceIn_46 : decode cX4_paceIn 46 = .ok (.imul, 1) := by decide +kernel
theorem dX4_paceIn_47 : decode cX4_paceIn 47 = .ok (.lshr, 1) := by decide +kernel
theorem dX4_paceIn_48 : decode cX4_paceIn 48 = .ok (.l2i, 1) := by decide +kernel
theorem dX4_paceIn_49 : decode cX4_paceIn 49 = .ok (.bipush 15, 2) := by decide +kernel
theorem dX4_paceIn_51 : decode cX4_paceIn 51 = .ok (.iand, 1) := by decide +kernel
theorem dX4_paceIn_52 : decode cX4_paceIn 52 = .ok (.ireturn, 1) := by decide +kernel
theorem dX4_begin_0 : decode cX4_begin 0 = .ok (.aload_n 0, 1) := by decide +kernel
theorem dX4_begin_1 : decode cX4_begin 1 = .ok (.aload_n 0, 1) := by decide +kernel
theorem dX4_begin_2 : decode cX4_begin 2 = .ok (.getfield 63, 3) := by decide +kernel
theorem dX4_begin_5 : decode cX4_begin 5 = .ok (.getfield 73, 3) := by decide +kernel
theorem dX4_begin_8 : decode cX4_begin 8 = .ok (.iconst 1, 1) := by decide +kernel
theorem dX4_begin_9 : decode cX4_begin 9 = .ok (.aload_n 0, 1) := by decide +kernel
theorem dX4_begin_10 : decode cX4_begin 10 = .ok (.getfield 42, 3) := by decide +kernel
theorem dX4_begin_13 : decode cX4_begin 13 = .ok (.iconst 0, 1) := by decide +kernel
theorem dX4_begin_14 : decode cX4_begin 14 = .ok (.invokevirtual 92, 3) := by decide +kernel
theorem dX4_begin_17 : decode cX4_begin 17 = .ok (.putfield 57, 3) := by decide +kernel
theorem dX4_begin_20 : decode cX4_begin 20 = .ok (.aload_n 0, 1) := by decide +kernel
theorem dX4_begin_21 : decode cX4_begin 21 = .ok (.aload_n 0, 1) := by decide +kernel
theorem dX4_begin_22 : decode cX4_begin 22 = .ok (.getfield 63, 3) := by decide +kernel
theorem dX4_begin_25 : decode cX4_begin 25 = .ok (.getfield 73, 3) := by decide +kernel
theorem dX4_begin_28 : decode cX4_begin 28 = .ok (.iconst 2, 1) := by decide +kernel
theorem dX4_begin_29 : decode cX4_begin 29 = .ok (.aload_n 0, 1) := by decide +kernel
theorem dX4_begin_30 : decode cX4_begin 30 = .ok (.getfield 45, 3) := by decide +kernel
theorem dX4_begin_33 : decode cX4_begin 33 = .ok (.iconst 0, 1) := by decide +kernel
theorem dX4_begin_34 : decode cX4_begin 34 = .ok (.invokevirtual 92, 3) := by decide +kernel
theorem dX4_begin_37 : decode cX4_begin 37 = .ok (.putfield 60, 3) := by decide +kernel
theorem dX4_begin_40 : decode cX4_begin 40 = .ok (.aload_n 0, 1) := by decide +kernel
theorem dX4_begin_41 : decode cX4_begin 41 = .ok (.getfield 25, 3) := by decide +kernel
theorem dX4_begin_44 : decode cX4_begin 44 = .ok (.iconst 0, 1) := by decide +kernel
theorem dX4_begin_45 : decode cX4_begin 45 = .ok (.aload_n 0, 1) := by decide +kernel
theorem dX4_begin_46 : decode cX4_begin 46 = .ok (.getfield 57, 3) := by decide +kernel
theorem dX4_begin_49 : decode cX4_begin 49 = .ok (.bipush 41, 2) := by decide +kernel
theorem dX4_begin_51 : decode cX4_begin 51 = .ok (.imul, 1) := by decide +kernel
theorem dX4_begin_52 : decode cX4_begin 52 = .ok (.aload_n 0, 1) := by decide +kernel
theorem dX4_begin_53 : decode cX4_begin 53 = .ok (.getfield 63, 3) := by decide +kernel
theorem dX4_begin_56 : decode cX4_begin 56 = .ok (.getfield 73, 3) := by decide +kernel
theorem dX4_begin_59 : decode cX4_begin 59 = .ok (.iconst 1, 1) := by decide +kernel
theorem dX4_begin_60 : decode cX4_begin 60 = .ok (.aload_n 0, 1) := by decide +kernel
theorem dX4_begin_61 : decode cX4_begin 61 = .ok (.getfield 42, 3) := by decide +kernel
theorem dX4_begin_64 : decode cX4_begin 64 = .ok (.iconst 1, 1) := by decide +kernel
theorem dX4_begin_65 : decode cX4_begin 65 = .ok (.invokevirtual 92, 3) := by decide +kernel
theorem dX4_begin_68 : decode cX4_begin 68 = .ok (.iadd, 1) := by decide +kernel
theorem dX4_begin_69 : decode cX4_begin 69 = .ok (.iastore, 1) := by decide +kernel
theorem dX4_begin_70 : decode cX4_begin 70 = .ok (.aload_n 0, 1) := by decide +kernel
theorem dX4_begin_71 : decode cX4_begin 71 = .ok (.iconst 1, 1) := by decide +kernel
theorem dX4_begin_72 : decode cX4_begin 72 = .ok (.putfield 32, 3) := by decide +kernel
theorem dX4_begin_75 : decode cX4_begin 75 = .ok (.return_, 1) := by decide +kernel
theorem dX4_end_0 : decode cX4_end 0 = .ok (.aload_n 0, 1) := by decide +kernel
theorem dX4_end_1 : decode cX4_end 1 = .ok (.ldc2_w 51, 3) := by decide +kernel
theorem dX4_end_4 : decode cX4_end 4 = .ok (.putfield 53, 3) := by decide +kernel
theorem dX4_end_7 : decode cX4_end 7 = .ok (.iconst 0, 1) := by decide +kernel
theorem dX4_end_8 : decode cX4_end 8 = .ok (.istore_n 1, 1) := by decide +kernel
theorem dX4_end_9 : decode cX4_end 9 = .ok (.iload_n 1, 1) := by decide +kernel
theorem dX4_end_10 : decode cX4_end 10 = .ok (.aload_n 0, 1) := by decide +kernel
theorem dX4_end_11 : decode cX4_end 11 = .ok (.getfield 32, 3) := by decide +kernel
theorem dX4_end_14 : decode cX4_end 14 = .ok (.if_icmp .ge 65, 3) := by decide +kernel
theorem dX4_end_17 : decode cX4_end 17 = .ok (.aload_n 0, 1) := by decide +kernel
theorem dX4_end_18 : decode cX4_end 18 = .ok (.getfield 18, 3) := by decide +kernel
theorem dX4_end_21 : decode cX4_end 21 = .ok (.aload_n 0, 1) := by decide +kernel
theorem dX4_end_22 : decode cX4_end 22 = .ok (.getfield 25, 3) := by decide +kernel
theorem dX4_end_25 : decode cX4_end 25 = .ok (.iload_n 1, 1) := by decide +kernel
theorem dX4_end_26 : decode cX4_end 26 = .ok (.iaload, 1) := by decide +kernel
theorem dX4_end_27 : decode cX4_end 27 = .ok (.laload, 1) := by decide +kernel
theorem dX4_end_28 : decode cX4_end 28 = .ok (.lstore_n 2, 1) := by decide +kernel
theorem dX4_end_29 : decode cX4_end 29 = .ok (.aload_n 0, 1) := by decide +kernel
theorem dX4_end_30 : decode cX4_end 30 = .ok (.aload_n 0, 1) := by decide +kernel
theorem dX4_end_31 : decode cX4_end 31 = .ok (.getfield 53, 3) := by decide +kernel
theorem dX4_end_34 : decode cX4_end 34 = .ok (.ldc2_w 51, 3) := by decide +kernel
theorem dX4_end_37 : decode cX4_end 37 = .ok (.lcmp, 1) := by decide +kernel
theorem dX4_end_38 : decode cX4_end 38 = .ok (.ifCond .eq 12, 3) := by decide +kernel
theorem dX4_end_41 : decode cX4_end 41 = .ok (.lload_n 2, 1) := by decide +kernel
theorem dX4_end_42 : decode cX4_end 42 = .ok (.aload_n 0, 1) := by decide +kernel
theorem dX4_end_43 : decode cX4_end 43 = .ok (.getfield 53, 3) := by decide +kernel
theorem dX4_end_46 : decode cX4_end 46 = .ok (.lcmp, 1) := by decide +kernel
theorem dX4_end_47 : decode cX4_end 47 = .ok (.ifCond .ge 7, 3) := by decide +kernel
theorem dX4_end_50 : decode cX4_end 50 = .ok (.lload_n 2, 1) := by decide +kernel
theorem dX4_end_51 : decode cX4_end 51 = .ok (.goto 7, 3) := by decide +kernel
theorem dX4_end_54 : decode cX4_end 54 = .ok (.aload_n 0, 1) := by decide +kernel
theorem dX4_end_55 : decode cX4_end 55 = .ok (.getfield 53, 3) := by decide +kernel
theorem dX4_end_58 : decode cX4_end 58 = .ok (.putfield 53, 3) := by decide +kernel
theorem dX4_end_61 : decode cX4_end 61 = .ok (.aload_n 0, 1) := by decide +kernel
theorem dX4_end_62 : decode cX4_end 62 = .ok (.getfield 18, 3) := by decide +kernel
theorem dX4_end_65 : decode cX4_end 65 = .ok (.aload_n 0, 1) := by decide +kernel
theorem dX4_end_66 : decode cX4_end 66 = .ok (.getfield 25, 3) := by decide +kernel
theorem dX4_end_69 : decode cX4_end 69 = .ok (.iload_n 1, 1) := by decide +kernel
theorem dX4_end_70 : decode cX4_end 70 = .ok (.iaload, 1) := by decide +kernel
theorem dX4_end_71 : decode cX4_end 71 = .ok (.lconst 0, 1) := by decide +kernel
theorem dX4_end_72 : decode cX4_end 72 = .ok (.lastore, 1) := by decide +kernel
theorem dX4_end_73 : decode cX4_end 73 = .ok (.iinc 1 1, 3) := by decide +kernel
theorem dX4_end_76 : decode cX4_end 76 = .ok (.goto (-67), 3) := by decide +kernel
theorem dX4_end_79 : decode cX4_end 79 = .ok (.return_, 1) := by decide +kernel
theorem dX4_spread_0 : decode cX4_spread 0 = .ok (.iload_n 1, 1) := by decide +kernel
theorem dX4_spread_1 : decode cX4_spread 1 = .ok (.ifCond .lt 10, 3) := by decide +kernel
theorem dX4_spread_4 : decode cX4_spread 4 = .ok (.iload_n 1, 1) := by decide +kernel
theorem dX4_spread_5 : decode cX4_spread 5 = .ok (.sipush 2501, 3) := by decide +kernel
theorem dX4_spread_8 : decode cX4_spread 8 = .ok (.if_icmp .lt 4, 3) := by decide +kernel
theorem dX4_spread_11 : decode cX4_spread 11 = .ok (.return_, 1) := by decide +kernel
theorem dX4_spread_12 : decode cX4_spread 12 = .ok (.iload_n 2, 1) := by decide +kernel
theorem dX4_spread_13 : decode cX4_spread 13 = .ok (.ifCond .ne 14, 3) := by decide +kernel
theorem dX4_spread_16 : decode cX4_spread 16 = .ok (.aload_n 0, 1) := by decide +kernel
theorem dX4_spread_17 : decode cX4_spread 17 = .ok (.getfield 48, 3) := by decide +kernel
theorem dX4_spread_20 : decode cX4_spread 20 = .ok (.ifCond .le 7, 3) := by decide +kernel
theorem dX4_spread_23 : decode cX4_spread 23 = .ok (.iconst 1, 1) := by decide +kernel
theorem dX4_spread_24 : decode cX4_spread 24 = .ok (.goto 4, 3) := by decide +kernel
theorem dX4_spread_27 : decode cX4_spread 27 = .ok (.iconst 0, 1) := by decide +kernel
theorem dX4_spread_28 : decode cX4_spread 28 = .ok (.istore_n 3, 1) := by decide +kernel
theorem dX4_spread_29 : decode cX4_spread 29 = .ok (.iload_n 3, 1) := by decide +kernel
theorem dX4_spread_30 : decode cX4_spread 30 = .ok (.ifCond .eq 10, 3) := by decide +kernel
theorem dX4_spread_33 : decode cX4_spread 33 = .ok (.aload_n 0, 1) := by decide +kernel
theorem dX4_spread_34 : decode cX4_spread 34 = .ok (.getfield 48, 3) := by decide +kernel
theorem dX4_spread_37 : decode cX4_spread 37 = .ok (.goto 4, 3) := by decide +kernel
theorem dX4_spread_40 : decode cX4_spread 40 = .ok (.iconst 1, 1) := by decide +kernel
theorem dX4_spread_41 : decode cX4_spread 41 = .ok (.istore 4, 2) := by decide +kernel
theorem dX4_spread_43 : decode cX4_spread 43 = .ok (.iload_n 3, 1) := by decide +kernel
theorem dX4_spread_44 : decode cX4_spread 44 = .ok (.ifCond .eq 10, 3) := by decide +kernel
theorem dX4_spread_47 : decode cX4_spread 47 = .ok (.aload_n 0, 1) := by decide +kernel
theorem dX4_spread_48 : decode cX4_spread 48 = .ok (.getfield 48, 3) := by decide +kernel
theorem dX4_spread_51 : decode cX4_spread 51 = .ok (.goto 5, 3) := by decide +kernel
theorem dX4_spread_54 : decode cX4_spread 54 = .ok (.bipush 9, 2) := by decide +kernel
theorem dX4_spread_56 : decode cX4_spread 56 = .ok (.istore 5, 2) := by decide +kernel
theorem dX4_spread_58 : decode cX4_spread 58 = .ok (.iload 4, 2) := by decide +kernel
theorem dX4_spread_60 : decode cX4_spread 60 = .ok (.istore 6, 2) := by decide +kernel
theorem dX4_spread_62 : decode cX4_spread 62 = .ok (.iload 6, 2) := by decide +kernel
theorem dX4_spread_64 : decode cX4_spread 64 = .ok (.iload 5, 2) := by decide +kernel
theorem dX4_spread_66 : decode cX4_spread 66 = .ok (.if_icmp .gt 94, 3) := by decide +kernel
theorem dX4_spread_69 : decode cX4_spread 69 = .ok (.aload_n 0, 1) := by decide +kernel
theorem dX4_spread_70 : decode cX4_spread 70 = .ok (.getfield 14, 3) := by decide +kernel
theorem dX4_spread_73 : decode cX4_spread 73 = .ok (.aload_n 0, 1) := by decide +kernel
theorem dX4_spread_74 : decode cX4_spread 74 = .ok (.getfield 57, 3) := by decide +kernel
theorem dX4_spread_77 : decode cX4_spread 77 = .ok (.iload_n 1, 1) := by decide +kernel
theorem dX4_spread_78 : decode cX4_spread 78 = .ok (.bipush 41, 2) := by decide +kernel
theorem dX4_spread_80 : decode cX4_spread 80 = .ok (.idiv, 1) := by decide +kernel
theorem dX4_spread_81 : decode cX4_spread 81 = .ok (.iload_n 1, 1) := by decide +kernel
theorem dX4_spread_82 : decode cX4_spread 82 = .ok (.bipush 41, 2) := by decide +kernel
theorem dX4_spread_84 : decode cX4_spread 84 = .ok (.irem, 1) := by decide +kernel
theorem dX4_spread_85 : decode cX4_spread 85 = .ok (.aload_n 0, 1) := by decide +kernel
theorem dX4_spread_86 : decode cX4_spread 86 = .ok (.getfield 60, 3) := by decide +kernel
theorem dX4_spread_89 : decode cX4_spread 89 = .ok (.invokevirtual 96, 3) := by decide +kernel
theorem dX4_spread_92 : decode cX4_spread 92 = .ok (.aload_n 0, 1) := by decide +kernel
theorem dX4_spread_93 : decode cX4_spread 93 = .ok (.getfield 14, 3) := by decide +kernel
theorem dX4_spread_96 : decode cX4_spread 96 = .ok (.aload_n 0, 1) := by decide +kernel
theorem dX4_spread_97 : decode cX4_spread 97 = .ok (.getfield 63, 3) := by decide +kernel
theorem dX4_spread_100 : decode cX4_spread 100 = .ok (.iload_n 2, 1) := by decide +kernel
theorem dX4_spread_101 : decode cX4_spread 101 = .ok (.iload 6, 2) := by decide +kernel
theorem dX4_spread_103 : decode cX4_spread 103 = .ok (.aload_n 0, 1) := by decide +kernel
theorem dX4_spread_104 : decode cX4_spread 104 = .ok (.getfield 63, 3) := by decide +kernel
theorem dX4_spread_107 : decode cX4_spread 107 = .ok (.iload_n 2, 1) := by decide +kernel
theorem dX4_spread_108 : decode cX4_spread 108 = .ok (.invokevirtual 100, 3) := by decide +kernel
theorem dX4_spread_111 : decode cX4_spread 111 = .ok (.invokevirtual 103, 3) := by decide +kernel
theorem dX4_spread_114 : decode cX4_spread 114 = .ok (.aload_n 0, 1) := by decide +kernel
theorem dX4_spread_115 : decode cX4_spread 115 = .ok (.getfield 14, 3) := by decide +kernel
theorem dX4_spread_118 : decode cX4_spread 118 = .ok (.invokevirtual 107, 3) := by decide +kernel
theorem dX4_spread_121 : decode cX4_spread 121 = .ok (.ifCond .ne 33, 3) := by decide +kernel
theorem dX4_spread_124 : decode cX4_spread 124 = .ok (.aload_n 0, 1) := by decide +kernel
theorem dX4_spread_125 : decode cX4_spread 125 = .ok (.aload_n 0, 1) := by decide +kernel
theorem dX4_spread_126 : decode cX4_spread 126 = .ok (.getfield 14, 3) := by decide +kernel
theorem dX4_spread_129 : decode cX4_spread 129 = .ok (.getfield 111, 3) := by decide +kernel
theorem dX4_spread_132 : decode cX4_spread 132 = .ok (.bipush 41, 2) := by decide +kernel
theorem dX4_spread_134 : decode cX4_spread 134 = .ok (.imul, 1) := by decide +kernel
theorem dX4_spread_135 : decode cX4_spread 135 = .ok (.aload_n 0, 1) := by decide +kernel
theorem dX4_spread_136 : decode cX4_spread 136 = .ok (.getfield 14, 3) := by decide +kernel
theorem dX4_spread_139 : decode cX4_spread 139 = .ok (.getfield 114, 3) := by decide +kernel
theorem dX4_spread_142 : decode cX4_spread 142 = .ok (.iadd, 1) := by decide +kernel
theorem dX4_spread_143 : decode cX4_spread 143 = .ok (.aload_n 0, 1) := by decide +kernel
theorem dX4_spread_144 : decode cX4_spread 144 = .ok (.getfield 18, 3) := by decide +kernel
theorem dX4_spread_147 : decode cX4_spread 147 = .ok (.iload_n 1, 1) := by decide +kernel
theorem dX4_spread_148 : decode cX4_spread 148 = .ok (.laload, 1) := by decide +kernel
theorem dX4_spread_149 : decode cX4_spread 149 = .ok (.iload 6, 2) := by decide +kernel
theorem dX4_spread_151 : decode cX4_spread 151 = .ok (.invokevirtual 117, 3) := by decide +kernel
theorem dX4_spread_154 : decode cX4_spread 154 = .ok (.iinc 6 1, 3) := by decide +kernel
theorem dX4_spread_157 : decode cX4_spread 157 = .ok (.goto (-95), 3) := by decide +kernel
theorem dX4_spread_160 : decode cX4_spread 160 = .ok (.return_, 1) := by decide +kernel
theorem dX4_reach_0 : decode cX4_reach 0 = .ok (.iload_n 1, 1) := by decide +kernel
theorem dX4_reach_1 : decode cX4_reach 1 = .ok (.ifCond .lt 10, 3) := by decide +kernel
theorem dX4_reach_4 : decode cX4_reach 4 = .ok (.iload_n 1, 1) := by decide +kernel
theorem dX4_reach_5 : decode cX4_reach 5 = .ok (.sipush 2501, 3) := by decide +kernel
theorem dX4_reach_8 : decode cX4_reach 8 = .ok (.if_icmp .lt 4, 3) := by decide +kernel
theorem dX4_reach_11 : decode cX4_reach 11 = .ok (.return_, 1) := by decide +kernel
theorem dX4_reach_12 : decode cX4_reach 12 = .ok (.lload_n 2, 1) := by decide +kernel
theorem dX4_reach_13 : decode cX4_reach 13 = .ok (.bipush 24, 2) := by decide +kernel
theorem dX4_reach_15 : decode cX4_reach 15 = .ok (.lshr, 1) := by decide +kernel
theorem dX4_reach_16 : decode cX4_reach 16 = .ok (.aload_n 0, 1) := by decide +kernel
theorem dX4_reach_17 : decode cX4_reach 17 = .ok (.getfield 14, 3) := by decide +kernel
theorem dX4_reach_20 : decode cX4_reach 20 = .ok (.getfield 121, 3) := by decide +kernel
theorem dX4_reach_23 : decode cX4_reach 23 = .ok (.i2l, 1) := by decide +kernel
theorem dX4_reach_24 : decode cX4_reach 24 = .ok (.ladd, 1) := by decide +kernel
theorem dX4_reach_25 : decode cX4_reach 25 = .ok (.lstore 5, 2) := by decide +kernel
theorem dX4_reach_27 : decode cX4_reach 27 = .ok (.lload_n 2, 1) := by decide +kernel
theorem dX4_reach_28 : decode cX4_reach 28 = .ok (.iconst 4, 1) := by decide +kernel
theorem dX4_reach_29 : decode cX4_reach 29 = .ok (.lshl, 1) := by decide +kernel
theorem dX4_reach_30 : decode cX4_reach 30 = .ok (.ldc2_w 124, 3) := by decide +kernel
theorem dX4_reach_33 : decode cX4_reach 33 = .ok (.land, 1) := by decide +kernel
theorem dX4_reach_34 : decode cX4_reach 34 = .ok (.iload 4, 2) := by decide +kernel
theorem dX4_reach_36 : decode cX4_reach 36 = .ok (.i2l, 1) := by decide +kernel
theorem dX4_reach_37 : decode cX4_reach 37 = .ok (.lor, 1) := by decide +kernel
theorem dX4_reach_38 : decode cX4_reach 38 = .ok (.lstore 7, 2) := by decide +kernel
theorem dX4_reach_40 : decode cX4_reach 40 = .ok (.lload 5, 2) := by decide +kernel
theorem dX4_reach_42 : decode cX4_reach 42 = .ok (.bipush 24, 2) := by decide +kernel
theorem dX4_reach_44 : decode cX4_reach 44 = .ok (.lshl, 1) := by decide +kernel
theorem dX4_reach_45 : decode cX4_reach 45 = .ok (.lload 7, 2) := by decide +kernel
theorem dX4_reach_47 : decode cX4_reach 47 = .ok (.lor, 1) := by decide +kernel
theorem dX4_reach_48 : decode cX4_reach 48 = .ok (.lstore 9, 2) := by decide +kernel
theorem dX4_reach_50 : decode cX4_reach 50 = .ok (.aload_n 0, 1) := by decide +kernel
theorem dX4_reach_51 : decode cX4_reach 51 = .ok (.getfield 22, 3) := by decide +kernel
theorem dX4_reach_54 : decode cX4_reach 54 = .ok (.iload_n 1, 1) := by decide +kernel
theorem dX4_reach_55 : decode cX4_reach 55 = .ok (.laload, 1) := by decide +kernel
theorem dX4_reach_56 : decode cX4_reach 56 = .ok (.lconst 0, 1) := by decide +kernel
theorem dX4_reach_57 : decode cX4_reach 57 = .ok (.lcmp, 1) := by decide +kernel
theorem dX4_reach_58 : decode cX4_reach 58 = .ok (.ifCond .ne 44, 3) := by decide +kernel
theorem dX4_reach_61 : decode cX4_reach 61 = .ok (.aload_n 0, 1) := by decide +kernel
theorem dX4_reach_62 : decode cX4_reach 62 = .ok (.getfield 36, 3) := by decide +kernel
theorem dX4_reach_65 : decode cX4_reach 65 = .ok (.sipush 2501, 3) := by decide +kernel
theorem dX4_reach_68 : decode cX4_reach 68 = .ok (.if_icmp .ge 34, 3) := by decide +kernel
theorem dX4_reach_71 : decode cX4_reach 71 = .ok (.aload_n 0, 1) := by decide +kernel
theorem dX4_reach_72 : decode cX4_reach 72 = .ok (.getfield 29, 3) := by decide +kernel
theorem dX4_reach_75 : decode cX4_reach 75 = .ok (.aload_n 0, 1) := by decide +kernel
theorem dX4_reach_76 : decode cX4_reach 76 = .ok (.getfield 36, 3) := by decide +kernel
theorem dX4_reach_79 : decode cX4_reach 79 = .ok (.iload_n 1, 1) := by decide +kernel
theorem dX4_reach_80 : decode cX4_reach 80 = .ok (.iastore, 1) := by decide +kernel
theorem dX4_reach_81 : decode cX4_reach 81 = .ok (.aload_n 0, 1) := by decide +kernel
theorem dX4_reach_82 : decode cX4_reach 82 = .ok (.dup, 1) := by decide +kernel
theorem dX4_reach_83 : decode cX4_reach 83 = .ok (.getfield 36, 3) := by decide +kernel
theorem dX4_reach_86 : decode cX4_reach 86 = .ok (.iconst 1, 1) := by decide +kernel
theorem dX4_reach_87 : decode cX4_reach 87 = .ok (.iadd, 1) := by decide +kernel
theorem dX4_reach_88 : decode cX4_reach 88 = .ok (.putfield 36, 3) := by decide +kernel
theorem dX4_reach_91 : decode cX4_reach 91 = .ok (.aload_n 0, 1) := by decide +kernel
theorem dX4_reach_92 : decode cX4_reach 92 = .ok (.getfield 22, 3) := by decide +kernel
theorem dX4_reach_95 : decode cX4_reach 95 = .ok (.iload_n 1, 1) := by decide +kernel
theorem dX4_reach_96 : decode cX4_reach 96 = .ok (.lload 9, 2) := by decide +kernel
theorem dX4_reach_98 : decode cX4_reach 98 = .ok (.lastore, 1) := by decide +kernel
theorem dX4_reach_99 : decode cX4_reach 99 = .ok (.goto 23, 3) := by decide +kernel
theorem dX4_reach_102 : decode cX4_reach 102 = .ok (.lload 9, 2) := by decide +kernel
theorem dX4_reach_104 : decode cX4_reach 104 = .ok (.aload_n 0, 1) := by decide +kernel
theorem dX4_reach_105 : decode cX4_reach 105 = .ok (.getfield 22, 3) := by decide +kernel
theorem dX4_reach_108 : decode cX4_reach 108 = .ok (.iload_n 1, 1) := by decide +kernel
theorem dX4_reach_109 : decode cX4_reach 109 = .ok (.laload, 1) := by decide +kernel
theorem dX4_reach_110 : decode cX4_reach 110 = .ok (.lcmp, 1) := by decide +kernel
theorem dX4_reach_111 : decode cX4_reach 111 = .ok (.ifCond .ge 11, 3) := by decide +kernel
theorem dX4_reach_114 : decode cX4_reach 114 = .ok (.aload_n 0, 1) := by decide +kernel
theorem dX4_reach_115 : decode cX4_reach 115 = .ok (.getfield 22, 3) := by decide +kernel
theorem dX4_reach_118 : decode cX4_reach 118 = .ok (.iload_n 1, 1) := by decide +kernel
theorem dX4_reach_119 : decode cX4_reach 119 = .ok (.lload 9, 2) := by decide +kernel
theorem dX4_reach_121 : decode cX4_reach 121 = .ok (.lastore, 1) := by decide +kernel
theorem dX4_reach_122 : decode cX4_reach 122 = .ok (.return_, 1) := by decide +kernel
theorem dX4_turnOver_0 : decode cX4_turnOver 0 = .ok (.iconst 0, 1) := by decide +kernel
theorem dX4_turnOver_1 : decode cX4_turnOver 1 = .ok (.istore_n 1, 1) := by decide +kernel
theorem dX4_turnOver_2 : decode cX4_turnOver 2 = .ok (.iload_n 1, 1) := by decide +kernel
theorem dX4_turnOver_3 : decode cX4_turnOver 3 = .ok (.aload_n 0, 1) := by decide +kernel
theorem dX4_turnOver_4 : decode cX4_turnOver 4 = .ok (.getfield 32, 3) := by decide +kernel
theorem dX4_turnOver_7 : decode cX4_turnOver 7 = .ok (.if_icmp .ge 21, 3) := by decide +kernel
theorem dX4_turnOver_10 : decode cX4_turnOver 10 = .ok (.aload_n 0, 1) := by decide +kernel
theorem dX4_turnOver_11 : decode cX4_turnOver 11 = .ok (.getfield 18, 3) := by decide +kernel
theorem dX4_turnOver_14 : decode cX4_turnOver 14 = .ok (.aload_n 0, 1) := by decide +kernel
theorem dX4_turnOver_15 : decode cX4_turnOver 15 = .ok (.getfield 25, 3) := by decide +kernel
theorem dX4_turnOver_18 : decode cX4_turnOver 18 = .ok (.iload_n 1, 1) := by decide +kernel
theorem dX4_turnOver_19 : decode cX4_turnOver 19 = .ok (.iaload, 1) := by decide +kernel
theorem dX4_turnOver_20 : decode cX4_turnOver 20 = .ok (.lconst 0, 1) := by decide +kernel
theorem dX4_turnOver_21 : decode cX4_turnOver 21 = .ok (.lastore, 1) := by decide +kernel
theorem dX4_turnOver_22 : decode cX4_turnOver 22 = .ok (.iinc 1 1, 3) := by decide +kernel
theorem dX4_turnOver_25 : decode cX4_turnOver 25 = .ok (.goto (-23), 3) := by decide +kernel
theorem dX4_turnOver_28 : decode cX4_turnOver 28 = .ok (.aload_n 0, 1) := by decide +kernel
theorem dX4_turnOver_29 : decode cX4_turnOver 29 = .ok (.getfield 18, 3) := by decide +kernel
theorem dX4_turnOver_32 : decode cX4_turnOver 32 = .ok (.astore_n 1, 1) := by decide +kernel
theorem dX4_turnOver_33 : decode cX4_turnOver 33 = .ok (.aload_n 0, 1) := by decide +kernel
theorem dX4_turnOver_34 : decode cX4_turnOver 34 = .ok (.aload_n 0, 1) := by decide +kernel
theorem dX4_turnOver_35 : decode cX4_turnOver 35 = .ok (.getfield 22, 3) := by decide +kernel
theorem dX4_turnOver_38 : decode cX4_turnOver 38 = .ok (.putfield 18, 3) := by decide +kernel
theorem dX4_turnOver_41 : decode cX4_turnOver 41 = .ok (.aload_n 0, 1) := by decide +kernel
theorem dX4_turnOver_42 : decode cX4_turnOver 42 = .ok (.aload_n 1, 1) := by decide +kernel
theorem dX4_turnOver_43 : decode cX4_turnOver 43 = .ok (.putfield 22, 3) := by decide +kernel
theorem dX4_turnOver_46 : decode cX4_turnOver 46 = .ok (.aload_n 0, 1) := by decide +kernel
theorem dX4_turnOver_47 : decode cX4_turnOver 47 = .ok (.getfield 25, 3) := by decide +kernel
theorem dX4_turnOver_50 : decode cX4_turnOver 50 = .ok (.astore_n 2, 1) := by decide +kernel
theorem dX4_turnOver_51 : decode cX4_turnOver 51 = .ok (.aload_n 0, 1) := by decide +kernel
theorem dX4_turnOver_52 : decode cX4_turnOver 52 = .ok (.aload_n 0, 1) := by decide +kernel
theorem dX4_turnOver_53 : decode cX4_turnOver 53 = .ok (.getfield 29, 3) := by decide +kernel
theorem dX4_turnOver_56 : decode cX4_turnOver 56 = .ok (.putfield 25, 3) := by decide +kernel
theorem dX4_turnOver_59 : decode cX4_turnOver 59 = .ok (.aload_n 0, 1) := by decide +kernel
theorem dX4_turnOver_60 : decode cX4_turnOver 60 = .ok (.aload_n 2, 1) := by decide +kernel
theorem dX4_turnOver_61 : decode cX4_turnOver 61 = .ok (.putfield 29, 3) := by decide +kernel
theorem dX4_turnOver_64 : decode cX4_turnOver 64 = .ok (.aload_n 0, 1) := by decide +kernel
theorem dX4_turnOver_65 : decode cX4_turnOver 65 = .ok (.aload_n 0, 1) := by decide +kernel
theorem dX4_turnOver_66 : decode cX4_turnOver 66 = .ok (.getfield 36, 3) := by decide +kernel
theorem dX4_turnOver_69 : decode cX4_turnOver 69 = .ok (.putfield 32, 3) := by decide +kernel
theorem dX4_turnOver_72 : decode cX4_turnOver 72 = .ok (.aload_n 0, 1) := by decide +kernel
theorem dX4_turnOver_73 : decode cX4_turnOver 73 = .ok (.iconst 0, 1) := by decide +kernel
theorem dX4_turnOver_74 : decode cX4_turnOver 74 = .ok (.putfield 36, 3) := by decide +kernel
theorem dX4_turnOver_77 : decode cX4_turnOver 77 = .ok (.return_, 1) := by decide +kernel
theorem dX5_init_0 : decode cX5_init 0 = .ok (.aload_n 0, 1) := by decide +kernel
theorem dX5_init_1 : decode cX5_init 1 = .ok (.invokespecial 3, 3) := by decide +kernel
theorem dX5_init_4 : decode cX5_init 4 = .ok (.aload_n 0, 1) := by decide +kernel
theorem dX5_init_5 : decode cX5_init 5 = .ok (.bipush 24, 2) := by decide +kernel
theorem dX5_init_7 : decode cX5_init 7 = .ok (.newarray .int, 2) := by decide +kernel
theorem dX5_init_9 : decode cX5_init 9 = .ok (.putfield 11, 3) := by decide +kernel
theorem dX5_init_12 : decode cX5_init 12 = .ok (.aload_n 0, 1) := by decide +kernel
theorem dX5_init_13 : decode cX5_init 13 = .ok (.bipush 24, 2) := by decide +kernel
theorem dX5_init_15 : decode cX5_init 15 = .ok (.newarray .int, 2) := by decide +kernel
theorem dX5_init_17 : decode cX5_init 17 = .ok (.putfield 15, 3) := by decide +kernel
theorem dX5_init_20 : decode cX5_init 20 = .ok (.aload_n 0, 1) := by decide +kernel
theorem dX5_init_21 : decode cX5_init 21 = .ok (.bipush 24, 2) := by decide +kernel
theorem dX5_init_23 : decode cX5_init 23 = .ok (.newarray .int, 2) := by decide +kernel
theorem dX5_init_25 : decode cX5_init 25 = .ok (.putfield 18, 3) := by decide +kernel
theorem dX5_init_28 : decode cX5_init 28 = .ok (.aload_n 0, 1) := by decide +kernel
theorem dX5_init_29 : decode cX5_init 29 = .ok (.bipush 24, 2) := by decide +kernel
theorem dX5_init_31 : decode cX5_init 31 = .ok (.newarray .boolean, 2) := by decide +kernel
theorem dX5_init_33 : decode cX5_init 33 = .ok (.putfield 21, 3) := by decide +kernel
theorem dX5_init_36 : decode cX5_init 36 = .ok (.aload_n 0, 1) := by decide +kernel
theorem dX5_init_37 : decode cX5_init 37 = .ok (.iconst 0, 1) := by decide +kernel
theorem dX5_init_38 : decode cX5_init 38 = .ok (.putfield 25, 3) := by decide +kernel
theorem dX5_init_41 : decode cX5_init 41 = .ok (.aload_n 0, 1) := by decide +kernel
theorem dX5_init_42 : decode cX5_init 42 = .ok (.iconst (-1), 1) := by decide +kernel
theorem dX5_init_43 : decode cX5_init 43 = .ok (.putfield 29, 3) := by decide +kernel
theorem dX5_init_46 : decode cX5_init 46 = .ok (.aload_n 0, 1) := by decide +kernel
theorem dX5_init_47 : decode cX5_init 47 = .ok (.bipush 30, 2) := by decide +kernel
theorem dX5_init_49 : decode cX5_init 49 = .ok (.newarray .int, 2) := by decide +kernel
theorem dX5_init_51 : decode cX5_init 51 = .ok (.putfield 32, 3) := by decide +kernel
theorem dX5_init_54 : decode cX5_init 54 = .ok (.aload_n 0, 1) := by decide +kernel
theorem dX5_init_55 : decode cX5_init 55 = .ok (.iconst 5, 1) := by decide +kernel
theorem dX5_init_56 : decode cX5_init 56 = .ok (.newarray .int, 2) := by decide +kernel
theorem dX5_init_58 : decode cX5_init 58 = .ok (.putfield 35, 3) := by decide +kernel
theorem dX5_init_61 : decode cX5_init 61 = .ok (.aload_n 0, 1) := by decide +kernel
theorem dX5_init_62 : decode cX5_init 62 = .ok (.iconst 0, 1) := by decide +kernel
theorem dX5_init_63 : decode cX5_init 63 = .ok (.putfield 38, 3) := by decide +kernel
theorem dX5_init_66 : decode cX5_init 66 = .ok (.aload_n 0, 1) := by decide +kernel
theorem dX5_init_67 : decode cX5_init 67 = .ok (.iconst (-1), 1) := by decide +kernel
theorem dX5_init_68 : decode cX5_init 68 = .ok (.putfield 42, 3) := by decide +kernel
theorem dX5_init_71 : decode cX5_init 71 = .ok (.aload_n 0, 1) := by decide +kernel
theorem dX5_init_72 : decode cX5_init 72 = .ok (.iconst 0, 1) := by decide +kernel
theorem dX5_init_73 : decode cX5_init 73 = .ok (.putfield 45, 3) := by decide +kernel
theorem dX5_init_76 : decode cX5_init 76 = .ok (.aload_n 0, 1) := by decide +kernel
theorem dX5_init_77 : decode cX5_init 77 = .ok (.iconst 0, 1) := by decide +kernel
theorem dX5_init_78 : decode cX5_init 78 = .ok (.putfield 48, 3) := by decide +kernel
theorem dX5_init_81 : decode cX5_init 81 = .ok (.aload_n 0, 1) := by decide +kernel
theorem dX5_init_82 : decode cX5_init 82 = .ok (.iconst 4, 1) := by decide +kernel
theorem dX5_init_83 : decode cX5_init 83 = .ok (.newarray .int, 2) := by decide +kernel
theorem dX5_init_85 : decode cX5_init 85 = .ok (.putfield 51, 3) := by decide +kernel
theorem dX5_init_88 : decode cX5_init 88 = .ok (.return_, 1) := by decide +kernel
theorem dX5_clear_0 : decode cX5_clear 0 = .ok (.aload_n 0, 1) := by decide +kernel
theorem dX5_clear_1 : decode cX5_clear 1 = .ok (.iconst 0, 1) := by decide +kernel
theorem dX5_clear_2 : decode cX5_clear 2 = .ok (.putfield 25, 3) := by decide +kernel
theorem dX5_clear_5 : decode cX5_clear 5 = .ok (.aload_n 0, 1) := by decide +kernel
theorem dX5_clear_6 : decode cX5_clear 6 = .ok (.iconst (-1), 1) := by decide +kernel
theorem dX5_clear_7 : decode cX5_clear 7 = .ok (.putfield 29, 3) := by decide +kernel
theorem dX5_clear_10 : decode cX5_clear 10 = .ok (.aload_n 0, 1) := by decide +kernel
theorem dX5_clear_11 : decode cX5_clear 11 = .ok (.iconst (-1), 1) := by decide +kernel
theorem dX5_clear_12 : decode cX5_clear 12 = .ok (.putfield 42, 3) := by decide +kernel
theorem dX5_clear_15 : decode cX5_clear 15 = .ok (.return_, 1) := by decide +kernel
theorem dX5_add_0 : decode cX5_add 0 = .ok (.aload_n 0, 1) := by decide +kernel
theorem dX5_add_1 : decode cX5_add 1 = .ok (.getfield 25, 3) := by decide +kernel
theorem dX5_add_4 : decode cX5_add 4 = .ok (.bipush 24, 2) := by decide +kernel
theorem dX5_add_6 : decode cX5_add 6 = .ok (.if_icmp .lt 5, 3) := by decide +kernel
theorem dX5_add_9 : decode cX5_add 9 = .ok (.iconst (-1), 1) := by decide +kernel
theorem dX5_add_10 : decode cX5_add 10 = .ok (.ireturn, 1) := by decide +kernel
theorem dX5_add_11 : decode cX5_add 11 = .ok (.aload_n 0, 1) := by decide +kernel
theorem dX5_add_12 : decode cX5_add 12 = .ok (.getfield 11, 3) := by decide +kernel
theorem dX5_add_15 : decode cX5_add 15 = .ok (.aload_n 0, 1) := by decide +kernel
theorem dX5_add_16 : decode cX5_add 16 = .ok (.getfield 25, 3) := by decide +kernel
theorem dX5_add_19 : decode cX5_add 19 = .ok (.iload_n 1, 1) := by decide +kernel
theorem dX5_add_20 : decode cX5_add 20 = .ok (.iastore, 1) := by decide +kernel
theorem dX5_add_21 : decode cX5_add 21 = .ok (.aload_n 0, 1) := by decide +kernel
theorem dX5_add_22 : decode cX5_add 22 = .ok (.getfield 15, 3) := by decide +kernel
theorem dX5_add_25 : decode cX5_add 25 = .ok (.aload_n 0, 1) := by decide +kernel
theorem dX5_add_26 : decode cX5_add 26 = .ok (.getfield 25, 3) := by decide +kernel
theorem dX5_add_29 : decode cX5_add 29 = .ok (.iload_n 2, 1) := by decide +kernel
theorem dX5_add_30 : decode cX5_add 30 = .ok (.bipush 6, 2) := by decide +kernel
theorem dX5_add_32 : decode cX5_add 32 = .ok (.imul, 1) := by decide +kernel
theorem dX5_add_33 : decode cX5_add 33 = .ok (.iload_n 3, 1) := by decide +kernel
theorem dX5_add_34 : decode cX5_add 34 = .ok (.iadd, 1) := by decide +kernel
theorem dX5_add_35 : decode cX5_add 35 = .ok (.iastore, 1) := by decide +kernel
theorem dX5_add_36 : decode cX5_add 36 = .ok (.aload_n 0, 1) := by decide +kernel
theorem dX5_add_37 : decode cX5_add 37 = .ok (.getfield 18, 3) := by decide +kernel
theorem dX5_add_40 : decode cX5_add 40 = .ok (.aload_n 0, 1) := by decide +kernel
theorem dX5_add_41 : decode cX5_add 41 = .ok (.getfield 25, 3) := by decide +kernel
theorem dX5_add_44 : decode cX5_add 44 = .ok (.iload 4, 2) := by decide +kernel
theorem dX5_add_46 : decode cX5_add 46 = .ok (.iastore, 1) := by decide +kernel
theorem dX5_add_47 : decode cX5_add 47 = .ok (.aload_n 0, 1) := by decide +kernel
theorem dX5_add_48 : decode cX5_add 48 = .ok (.dup, 1) := by decide +kernel
theorem dX5_add_49 : decode cX5_add 49 = .ok (.getfield 25, 3) := by decide +kernel
theorem dX5_add_52 : decode cX5_add 52 = .ok (.iconst 1, 1) := by decide +kernel
theorem dX5_add_53 : decode cX5_add 53 = .ok (.iadd, 1) := by decide +kernel
theorem dX5_add_54 : decode cX5_add 54 = .ok (.putfield 25, 3) := by decide +kernel
theorem dX5_add_57 : decode cX5_add 57 = .ok (.aload_n 0, 1) := by decide +kernel
theorem dX5_add_58 : decode cX5_add 58 = .ok (.iconst (-1), 1) := by decide +kernel
theorem dX5_add_59 : decode cX5_add 59 = .ok (.putfield 42, 3) := by decide +kernel
theorem dX5_add_62 : decode cX5_add 62 = .ok (.aload_n 0, 1) := by decide +kernel
theorem dX5_add_63 : decode cX5_add 63 = .ok (.getfield 25, 3) := by decide +kernel
theorem dX5_add_66 : decode cX5_add 66 = .ok (.iconst 1, 1) := by decide +kernel
theorem dX5_add_67 : decode cX5_add 67 = .ok (.isub, 1) := by decide +kernel
theorem dX5_add_68 : decode cX5_add 68 = .ok (.ireturn, 1) := by decide +kernel
theorem dX5_know_0 : decode cX5_know 0 = .ok (.aload_n 0, 1) := by decide +kernel
theorem dX5_know_1 : decode cX5_know 1 = .ok (.iload_n 1, 1) := by decide +kernel
theorem dX5_know_2 : decode cX5_know 2 = .ok (.putfield 29, 3) := by decide +kernel
theorem dX5_know_5 : decode cX5_know 5 = .ok (.aload_n 0, 1) := by decide +kernel
theorem dX5_know_6 : decode cX5_know 6 = .ok (.iconst (-1), 1) := by decide +kernel
theorem dX5_know_7 : decode cX5_know 7 = .ok (.putfield 42, 3) := by decide +kernel
theorem dX5_know_10 : decode cX5_know 10 = .ok (.return_, 1) := by decide +kernel
theorem dX5_knownSize_0 : decode cX5_knownSize 0 = .ok (.aload_n 0, 1) := by decide +kernel
theorem dX5_knownSize_1 : decode cX5_knownSize 1 = .ok (.getfield 29, 3) := by decide +kernel
theorem dX5_knownSize_4 : decode cX5_knownSize 4 = .ok (.iconst (-1), 1) := by decide +kernel
theorem dX5_knownSize_5 : decode cX5_knownSize 5 = .ok (.if_icmp .ne 10, 3) := by decide +kernel
theorem dX5_knownSize_8 : decode cX5_knownSize 8 = .ok (.aload_n 0, 1) := by decide +kernel
theorem dX5_knownSize_9 : decode cX5_knownSize 9 = .ok (.getfield 25, 3) := by decide +kernel
theorem dX5_knownSize_12 : decode cX5_knownSize 12 = .ok (.goto 14, 3) := by decide +kernel
theorem dX5_knownSize_15 : decode cX5_knownSize 15 = .ok (.aload_n 0, 1) := by decide +kernel
theorem dX5_knownSize_16 : decode cX5_knownSize 16 = .ok (.getfield 29, 3) := by decide +kernel
theorem dX5_knownSize_19 : decode cX5_knownSize 19 = .ok (.aload_n 0, 1) := by decide +kernel
theorem dX5_knownSize_20 : decode cX5_knownSize 20 = .ok (.getfield 25, 3) := by decide +kernel
theorem dX5_knownSize_23 : decode cX5_knownSize 23 = .ok (.invokestatic 54, 3) := by decide +kernel
theorem dX5_knownSize_26 : decode cX5_knownSize 26 = .ok (.ireturn, 1) := by decide +kernel
theorem dX5_fit_0 : decode cX5_fit 0 = .ok (.aload_n 0, 1) := by decide +kernel
theorem dX5_fit_1 : decode cX5_fit 1 = .ok (.getfield 42, 3) := by decide +kernel
theorem dX5_fit_4 : decode cX5_fit 4 = .ok (.iload_n 3, 1) := by decide +kernel
theorem dX5_fit_5 : decode cX5_fit 5 = .ok (.if_icmp .ne 15, 3) := by decide +kernel
theorem dX5_fit_8 : decode cX5_fit 8 = .ok (.aload_n 0, 1) := by decide +kernel
theorem dX5_fit_9 : decode cX5_fit 9 = .ok (.getfield 45, 3) := by decide +kernel
theorem dX5_fit_12 : decode cX5_fit 12 = .ok (.aload_n 1, 1) := by decide +kernel
theorem dX5_fit_13 : decode cX5_fit 13 = .ok (.getfield 60, 3) := by decide +kernel
theorem dX5_fit_16 : decode cX5_fit 16 = .ok (.if_icmp .ne 4, 3) := by decide +kernel
theorem dX5_fit_19 : decode cX5_fit 19 = .ok (.return_, 1) := by decide +kernel
theorem dX5_fit_20 : decode cX5_fit 20 = .ok (.aload_n 0, 1) := by decide +kernel
theorem dX5_fit_21 : decode cX5_fit 21 = .ok (.iload_n 3, 1) := by decide +kernel
theorem dX5_fit_22 : decode cX5_fit 22 = .ok (.putfield 42, 3) := by decide +kernel
theorem dX5_fit_25 : decode cX5_fit 25 = .ok (.aload_n 0, 1) := by decide +kernel
theorem dX5_fit_26 : decode cX5_fit 26 = .ok (.aload_n 1, 1) := by decide +kernel
theorem dX5_fit_27 : decode cX5_fit 27 = .ok (.getfield 60, 3) := by decide +kernel
theorem dX5_fit_30 : decode cX5_fit 30 = .ok (.putfield 45, 3) := by decide +kernel
theorem dX5_fit_33 : decode cX5_fit 33 = .ok (.aload_n 0, 1) := by decide +kernel
theorem dX5_fit_34 : decode cX5_fit 34 = .ok (.iconst 0, 1) := by decide +kernel
theorem dX5_fit_35 : decode cX5_fit 35 = .ok (.putfield 48, 3) := by decide +kernel
theorem dX5_fit_38 : decode cX5_fit 38 = .ok (.aload_n 0, 1) := by decide +kernel
theorem dX5_fit_39 : decode cX5_fit 39 = .ok (.invokevirtual 65, 3) := by decide +kernel
theorem dX5_fit_42 : decode cX5_fit 42 = .ok (.aload_n 0, 1) := by decide +kernel
theorem dX5_fit_43 : decode cX5_fit 43 = .ok (.iload_n 3, 1) := by decide +kernel
theorem dX5_fit_44 : decode cX5_fit 44 = .ok (.invokevirtual 68, 3) := by decide +kernel
theorem dX5_fit_47 : decode cX5_fit 47 = .ok (.iconst 1, 1) := by decide +kernel
theorem dX5_fit_48 : decode cX5_fit 48 = .ok (.istore 4, 2) := by decide +kernel
theorem dX5_fit_50 : decode cX5_fit 50 = .ok (.iload 4, 2) := by decide +kernel
theorem dX5_fit_52 : decode cX5_fit 52 = .ok (.bipush 60, 2) := by decide +kernel
theorem dX5_fit_54 : decode cX5_fit 54 = .ok (.if_icmp .gt 53, 3) := by decide +kernel
theorem dX5_fit_57 : decode cX5_fit 57 = .ok (.aload_n 0, 1) := by decide +kernel
theorem dX5_fit_58 : decode cX5_fit 58 = .ok (.getfield 38, 3) := by decide +kernel
theorem dX5_fit_61 : decode cX5_fit 61 = .ok (.ifCond .ne 46, 3) := by decide +kernel
theorem dX5_fit_64 : decode cX5_fit 64 = .ok (.iconst 1, 1) := by decide +kernel
theorem dX5_fit_65 : decode cX5_fit 65 = .ok (.istore 5, 2) := by decide +kernel
theorem dX5_fit_67 : decode cX5_fit 67 = .ok (.iload 5, 2) := by decide +kernel
theorem dX5_fit_69 : decode cX5_fit 69 = .ok (.bipush 40, 2) := by decide +kernel
theorem dX5_fit_71 : decode cX5_fit 71 = .ok (.if_icmp .gt 30, 3) := by decide +kernel
theorem dX5_fit_74 : decode cX5_fit 74 = .ok (.aload_n 0, 1) := by decide +kernel
theorem dX5_fit_75 : decode cX5_fit 75 = .ok (.aload_n 1, 1) := by decide +kernel
theorem dX5_fit_76 : decode cX5_fit 76 = .ok (.aload_n 2, 1) := by decide +kernel
theorem dX5_fit_77 : decode cX5_fit 77 = .ok (.iload 4, 2) := by decide +kernel
theorem dX5_fit_79 : decode cX5_fit 79 = .ok (.iload 5, 2) := by decide +kernel
theorem dX5_fit_81 : decode cX5_fit 81 = .ok (.invokevirtual 72, 3) := by decide +kernel
theorem dX5_fit_84 : decode cX5_fit 84 = .ok (.ifCond .eq 11, 3) := by decide +kernel
theorem dX5_fit_87 : decode cX5_fit 87 = .ok (.aload_n 0, 1) := by decide +kernel
theorem dX5_fit_88 : decode cX5_fit 88 = .ok (.iload 4, 2) := by decide +kernel
theorem dX5_fit_90 : decode cX5_fit 90 = .ok (.iload 5, 2) := by decide +kernel
theorem dX5_fit_92 : decode cX5_fit 92 = .ok (.invokevirtual 76, 3) := by decide +kernel
theorem dX5_fit_95 : decode cX5_fit 95 = .ok (.iinc 5 1, 3) := by decide +kernel
theorem dX5_fit_98 : decode cX5_fit 98 = .ok (.goto (-31), 3) := by decide +kernel
theorem dX5_fit_101 : decode cX5_fit 101 = .ok (.iinc 4 1, 3) := by decide +kernel
theorem dX5_fit_104 : decode cX5_fit 104 = .ok (.goto (-54), 3) := by decide +kernel
theorem dX5_fit_107 : decode cX5_fit 107 = .ok (.return_, 1) := by decide +kernel
theorem dX5_strikeOut_0 : decode cX5_strikeOut 0 = .ok (.iconst 0, 1) := by decide +kernel
theorem dX5_strikeOut_1 : decode cX5_strikeOut 1 = .ok (.istore_n 1, 1) := by decide +kernel
theorem dX5_strikeOut_2 : decode cX5_strikeOut 2 = .ok (.iload_n 1, 1) := by decide +kernel
theorem dX5_strikeOut_3 : decode cX5_strikeOut 3 = .ok (.bipush 24, 2) := by decide +kernel
theorem dX5_strikeOut_5 : decode cX5_strikeOut 5 = .ok (.if_icmp .ge 16, 3) := by decide +kernel
theorem dX5_strikeOut_8 : decode cX5_strikeOut 8 = .ok (.aload_n 0, 1) := by decide +kernel
theorem dX5_strikeOut_9 : decode cX5_strikeOut 9 = .ok (.getfield 21, 3) := by decide +kernel
theorem dX5_strikeOut_12 : decode cX5_strikeOut 12 = .ok (.iload_n 1, 1) := by decide +kernel
theorem dX5_strikeOut_13 : decode cX5_strikeOut 13 = .ok (.iconst 0, 1) := by decide +kernel
theorem dX5_strikeOut_14 : decode cX5_strikeOut 14 = .ok (.bastore, 1) := by decide +kernel
theorem dX5_strikeOut_15 : decode cX5_strikeOut 15 = .ok (.iinc 1 1, 3) := by decide +kernel
theorem dX5_strikeOut_18 : decode cX5_strikeOut 18 = .ok (.goto (-16), 3) := by decide +kernel
theorem dX5_strikeOut_21 : decode cX5_strikeOut 21 = .ok (.aload_n 0, 1) := by decide +kernel
theorem dX5_strikeOut_22 : decode cX5_strikeOut 22 = .ok (.invokevirtual 80, 3) := by decide +kernel
theorem dX5_strikeOut_25 : decode cX5_strikeOut 25 = .ok (.iconst 1, 1) := by decide +kernel
theorem dX5_strikeOut_26 : decode cX5_strikeOut 26 = .ok (.isub, 1) := by decide +kernel
theorem dX5_strikeOut_27 : decode cX5_strikeOut 27 = .ok (.istore_n 1, 1) := by decide +kernel
theorem dX5_strikeOut_28 : decode cX5_strikeOut 28 = .ok (.iload_n 1, 1) := by decide +kernel
theorem dX5_strikeOut_29 : decode cX5_strikeOut 29 = .ok (.ifCond .lt 70, 3) := by decide +kernel
theorem dX5_strikeOut_32 : decode cX5_strikeOut 32 = .ok (.aload_n 0, 1) := by decide +kernel
theorem dX5_strikeOut_33 : decode cX5_strikeOut 33 = .ok (.getfield 11, 3) := by decide +kernel
theorem dX5_strikeOut_36 : decode cX5_strikeOut 36 = .ok (.iload_n 1, 1) := by decide +kernel
theorem dX5_strikeOut_37 : decode cX5_strikeOut 37 = .ok (.iaload, 1) := by decide +kernel
theorem dX5_strikeOut_38 : decode cX5_strikeOut 38 = .ok (.iconst (-1), 1) := by decide +kernel
theorem dX5_strikeOut_39 : decode cX5_strikeOut 39 = .ok (.if_icmp .ne 16, 3) := by decide +kernel
theorem dX5_strikeOut_42 : decode cX5_strikeOut 42 = .ok (.aload_n 0, 1) := by decide +kernel
theorem dX5_strikeOut_43 : decode cX5_strikeOut 43 = .ok (.getfield 21, 3) := by decide +kernel
theorem dX5_strikeOut_46 : decode cX5_strikeOut 46 = .ok (.iload_n 1, 1) := by decide +kernel
theorem dX5_strikeOut_47 : decode cX5_strikeOut 47 = .ok (.baload, 1) := by decide +kernel
theorem dX5_strikeOut_48 : decode cX5_strikeOut 48 = .ok (.ifCond .ne 7, 3) := by decide +kernel
theorem dX5_strikeOut_51 : decode cX5_strikeOut 51 = .ok (.iconst 1, 1) := by decide +kernel
theorem dX5_strikeOut_52 : decode cX5_strikeOut 52 = .ok (.goto 4, 3) := by decide +kernel
theorem dX5_strikeOut_55 : decode cX5_strikeOut 55 = .ok (.iconst 0, 1) := by decide +kernel
theorem dX5_strikeOut_56 : decode cX5_strikeOut 56 = .ok (.istore_n 2, 1) := by decide +kernel
theorem dX5_strikeOut_57 : decode cX5_strikeOut 57 = .ok (.iload_n 2, 1) := by decide +kernel
theorem dX5_strikeOut_58 : decode cX5_strikeOut 58 = .ok (.ifCond .eq 35, 3) := by decide +kernel
theorem dX5_strikeOut_61 : decode cX5_strikeOut 61 = .ok (.aload_n 0, 1) := by decide +kernel
theorem dX5_strikeOut_62 : decode cX5_strikeOut 62 = .ok (.getfield 18, 3) := by decide +kernel
theorem dX5_strikeOut_65 : decode cX5_strikeOut 65 = .ok (.iload_n 1, 1) := by decide +kernel
theorem dX5_strikeOut_66 : decode cX5_strikeOut 66 = .ok (.iaload, 1) := by decide +kernel
theorem dX5_strikeOut_67 : decode cX5_strikeOut 67 = .ok (.ifCond .lt 26, 3) := by decide +kernel
theorem dX5_strikeOut_70 : decode cX5_strikeOut 70 = .ok (.aload_n 0, 1) := by decide +kernel
theorem dX5_strikeOut_71 : decode cX5_strikeOut 71 = .ok (.getfield 18, 3) := by decide +kernel
theorem dX5_strikeOut_74 : decode cX5_strikeOut 74 = .ok (.iload_n 1, 1) := by decide +kernel
theorem dX5_strikeOut_75 : decode cX5_strikeOut 75 = .ok (.iaload, 1) := by decide +kernel
theorem dX5_strikeOut_76 : decode cX5_strikeOut 76 = .ok (.bipush 24, 2) := by decide +kernel
theorem dX5_strikeOut_78 : decode cX5_strikeOut 78 = .ok (.if_icmp .ge 15, 3) := by decide +kernel
theorem dX5_strikeOut_81 : decode cX5_strikeOut 81 = .ok (.aload_n 0, 1) := by decide +kernel
theorem dX5_strikeOut_82 : decode cX5_strikeOut 82 = .ok (.getfield 21, 3) := by decide +kernel
theorem dX5_strikeOut_85 : decode cX5_strikeOut 85 = .ok (.aload_n 0, 1) := by decide +kernel
theorem dX5_strikeOut_86 : decode cX5_strikeOut 86 = .ok (.getfield 18, 3) := by decide +kernel
theorem dX5_strikeOut_89 : decode cX5_strikeOut 89 = .ok (.iload_n 1, 1) := by decide +kernel
theorem dX5_strikeOut_90 : decode cX5_strikeOut 90 = .ok (.iaload, 1) := by decide +kernel
theorem dX5_strikeOut_91 : decode cX5_strikeOut 91 = .ok (.iconst 1, 1) := by decide +kernel
theorem dX5_strikeOut_92 : decode cX5_strikeOut 92 = .ok (.bastore, 1) := by decide +kernel
theorem dX5_strikeOut_93 : decode cX5_strikeOut 93 = .ok (.iinc 1 (-1), 3) := by decide +kernel
theorem dX5_strikeOut_96 : decode cX5_strikeOut 96 = .ok (.goto (-68), 3) := by decide +kernel
theorem dX5_strikeOut_99 : decode cX5_strikeOut 99 = .ok (.return_, 1) := by decide +kernel
theorem dX5_gather_0 : decode cX5_gather 0 = .ok (.aload_n 0, 1) := by decide +kernel
theorem dX5_gather_1 : decode cX5_gather 1 = .ok (.iconst 0, 1) := by decide +kernel
theorem dX5_gather_2 : decode cX5_gather 2 = .ok (.putfield 38, 3) := by decide +kernel
theorem dX5_gather_5 : decode cX5_gather 5 = .ok (.iconst 0, 1) := by decide +kernel
theorem dX5_gather_6 : decode cX5_gather 6 = .ok (.istore_n 2, 1) := by decide +kernel
theorem dX5_gather_7 : decode cX5_gather 7 = .ok (.iload_n 2, 1) := by decide +kernel
theorem dX5_gather_8 : decode cX5_gather 8 = .ok (.bipush 30, 2) := by decide +kernel
theorem dX5_gather_10 : decode cX5_gather 10 = .ok (.if_icmp .ge 16, 3) := by decide +kernel
theorem dX5_gather_13 : decode cX5_gather 13 = .ok (.aload_n 0, 1) := by decide +kernel
theorem dX5_gather_14 : decode cX5_gather 14 = .ok (.getfield 32, 3) := by decide +kernel
theorem dX5_gather_17 : decode cX5_gather 17 = .ok (.iload_n 2, 1) := by decide +kernel
theorem dX5_gather_18 : decode cX5_gather 18 = .ok (.iconst (-1), 1) := by decide +kernel
theorem dX5_gather_19 : decode cX5_gather 19 = .ok (.iastore, 1) := by decide +kernel
theorem dX5_gather_20 : decode cX5_gather 20 = .ok (.iinc 2 1, 3) := by decide +kernel
theorem dX5_gather_23 : decode cX5_gather 23 = .ok (.goto (-16), 3) := by decide +kernel
theorem dX5_gather_26 : decode cX5_gather 26 = .ok (.iconst 0, 1) := by decide +kernel
theorem dX5_gather_27 : decode cX5_gather 27 = .ok (.istore_n 2, 1) := by decide +kernel
theorem dX5_gather_28 : decode cX5_gather 28 = .ok (.iload_n 2, 1) := by decide +kernel
theorem dX5_gather_29 : decode cX5_gather 29 = .ok (.iconst 5, 1) := by decide +kernel
theorem dX5_gather_30 : decode cX5_gather 30 = .ok (.if_icmp .ge 16, 3) := by decide +kernel
theorem dX5_gather_33 : decode cX5_gather 33 = .ok (.aload_n 0, 1) := by decide +kernel
theorem dX5_gather_34 : decode cX5_gather 34 = .ok (.getfield 35, 3) := by decide +kernel
theorem dX5_gather_37 : decode cX5_gather 37 = .ok (.iload_n 2, 1) := by decide +kernel
theorem dX5_gather_38 : decode cX5_gather 38 = .ok (.iconst (-1), 1) := by decide +kernel
theorem dX5_gather_39 : decode cX5_gather 39 = .ok (.iastore, 1) := by decide +kernel
theorem dX5_gather_40 : decode cX5_gather 40 = .ok (.iinc 2 1, 3) := by decide +kernel
theorem dX5_gather_43 : decode cX5_gather 43 = .ok (.goto (-15), 3) := by decide +kernel
theorem dX5_gather_46 : decode cX5_gather 46 = .ok (.iconst 0, 1) := by decide +kernel
theorem dX5_gather_47 : decode cX5_gather 47 = .ok (.istore_n 2, 1) := by decide +kernel
theorem dX5_gather_48 : decode cX5_gather 48 = .ok (.iload_n 2, 1) := by decide +kernel
theorem dX5_gather_49 : decode cX5_gather 49 = .ok (.aload_n 0, 1) := by decide +kernel
theorem dX5_gather_50 : decode cX5_gather 50 = .ok (.invokevirtual 80, 3) := by decide +kernel
theorem dX5_gather_53 : decode cX5_gather 53 = .ok (.if_icmp .ge 44, 3) := by decide +kernel
theorem dX5_gather_56 : decode cX5_gather 56 = .ok (.aload_n 0, 1) := by decide +kernel
theorem dX5_gather_57 : decode cX5_gather 57 = .ok (.getfield 11, 3) := by decide +kernel
theorem dX5_gather_60 : decode cX5_gather 60 = .ok (.iload_n 2, 1) := by decide +kernel
theorem dX5_gather_61 : decode cX5_gather 61 = .ok (.iaload, 1) := by decide +kernel
theorem dX5_gather_62 : decode cX5_gather 62 = .ok (.iload_n 1, 1) := by decide +kernel
theorem dX5_gather_63 : decode cX5_gather 63 = .ok (.if_icmp .ne 28, 3) := by decide +kernel
theorem dX5_gather_66 : decode cX5_gather 66 = .ok (.aload_n 0, 1) := by decide +kernel
theorem dX5_gather_67 : decode cX5_gather 67 = .ok (.getfield 21, 3) := by decide +kernel
theorem dX5_gather_70 : decode cX5_gather 70 = .ok (.iload_n 2, 1) := by decide +kernel
theorem dX5_gather_71 : decode cX5_gather 71 = .ok (.baload, 1) := by decide +kernel
theorem dX5_gather_72 : decode cX5_gather 72 = .ok (.ifCond .ne 19, 3) := by decide +kernel
theorem dX5_gather_75 : decode cX5_gather 75 = .ok (.aload_n 0, 1) := by decide +kernel
theorem dX5_gather_76 : decode cX5_gather 76 = .ok (.aload_n 0, 1) := by decide +kernel
theorem dX5_gather_77 : decode cX5_gather 77 = .ok (.getfield 15, 3) := by decide +kernel
theorem dX5_gather_80 : decode cX5_gather 80 = .ok (.iload_n 2, 1) := by decide +kernel
theorem dX5_gather_81 : decode cX5_gather 81 = .ok (.iaload, 1) := by decide +kernel
theorem dX5_gather_82 : decode cX5_gather 82 = .ok (.aload_n 0, 1) := by decide +kernel
theorem dX5_gather_83 : decode cX5_gather 83 = .ok (.getfield 18, 3) := by decide +kernel
theorem dX5_gather_86 : decode cX5_gather 86 = .ok (.iload_n 2, 1) := by decide +kernel
theorem dX5_gather_87 : decode cX5_gather 87 = .ok (.iaload, 1) := by decide +kernel
theorem dX5_gather_88 : decode cX5_gather 88 = .ok (.invokevirtual 84, 3) := by decide +kernel
theorem dX5_gather_91 : decode cX5_gather 91 = .ok (.iinc 2 1, 3) := by decide +kernel
theorem dX5_gather_94 : decode cX5_gather 94 = .ok (.goto (-46), 3) := by decide +kernel
theorem dX5_gather_97 : decode cX5_gather 97 = .ok (.return_, 1) := by decide +kernel
theorem dX5_expect_0 : decode cX5_expect 0 = .ok (.iload_n 1, 1) := by decide +kernel
theorem dX5_expect_1 : decode cX5_expect 1 = .ok (.ifCond .lt 9, 3) := by decide +kernel
theorem dX5_expect_4 : decode cX5_expect 4 = .ok (.iload_n 1, 1) := by decide +kernel
theorem dX5_expect_5 : decode cX5_expect 5 = .ok (.bipush 30, 2) := by decide +kernel
theorem dX5_expect_7 : decode cX5_expect 7 = .ok (.if_icmp .lt 4, 3) := by decide +kernel
theorem dX5_expect_10 : decode cX5_expect 10 = .ok (.return_, 1) := by decide +kernel
theorem dX5_expect_11 : decode cX5_expect 11 = .ok (.aload_n 0, 1) := by decide +kernel
theorem dX5_expect_12 : decode cX5_expect 12 = .ok (.getfield 32, 3) := by decide +kernel
theorem dX5_expect_15 : decode cX5_expect 15 = .ok (.iload_n 1, 1) := by decide +kernel
theorem dX5_expect_16 : decode cX5_expect 16 = .ok (.iaload, 1) := by decide +kernel
theorem dX5_expect_17 : decode cX5_expect 17 = .ok (.iconst (-1), 1) := by decide +kernel
theorem dX5_expect_18 : decode cX5_expect 18 = .ok (.if_icmp .eq 18, 3) := by decide +kernel
theorem dX5_expect_21 : decode cX5_expect 21 = .ok (.aload_n 0, 1) := by decide +kernel
theorem dX5_expect_22 : decode cX5_expect 22 = .ok (.getfield 32, 3) := by decide +kernel
theorem dX5_expect_25 : decode cX5_expect 25 = .ok (.iload_n 1, 1) := by decide +kernel
theorem dX5_expect_26 : decode cX5_expect 26 = .ok (.iaload, 1) := by decide +kernel
theorem dX5_expect_27 : decode cX5_expect 27 = .ok (.iload_n 2, 1) := by decide +kernel
theorem dX5_expect_28 : decode cX5_expect 28 = .ok (.if_icmp .eq 8, 3) := by decide +kernel
theorem dX5_expect_31 : decode cX5_expect 31 = .ok (.aload_n 0, 1) := by decide +kernel
theorem dX5_expect_32 : decode cX5_expect 32 = .ok (.iconst 1, 1) := by decide +kernel
theorem dX5_expect_33 : decode cX5_expect 33 = .ok (.putfield 38, 3) := by decide +kernel
theorem dX5_expect_36 : decode cX5_expect 36 = .ok (.aload_n 0, 1) := by decide +kernel
theorem dX5_expect_37 : decode cX5_expect 37 = .ok (.getfield 32, 3) := by decide +kernel
theorem dX5_expect_40 : decode cX5_expect 40 = .ok (.iload_n 1, 1) := by decide +kernel
theorem dX5_expect_41 : decode cX5_expect 41 = .ok (.iload_n 2, 1) := by decide +kernel
theorem dX5_expect_42 : decode cX5_expect 42 = .ok (.iastore, 1) := by decide +kernel
theorem dX5_expect_43 : decode cX5_expect 43 = .ok (.iload_n 1, 1) := by decide +kernel
theorem dX5_expect_44 : decode cX5_expect 44 = .ok (.bipush 6, 2) := by decide +kernel
theorem dX5_expect_46 : decode cX5_expect 46 = .ok (.idiv, 1) := by decide +kernel
theorem dX5_expect_47 : decode cX5_expect 47 = .ok (.istore_n 3, 1) := by decide +kernel
theorem dX5_expect_48 : decode cX5_expect 48 = .ok (.aload_n 0, 1) := by decide +kernel
theorem dX5_expect_49 : decode cX5_expect 49 = .ok (.getfield 35, 3) := by decide +kernel
theorem dX5_expect_52 : decode cX5_expect 52 = .ok (.iload_n 3, 1) := by decide +kernel
theorem dX5_expect_53 : decode cX5_expect 53 = .ok (.aload_n 0, 1) := by decide +kernel
theorem dX5_expect_54 : decode cX5_expect 54 = .ok (.getfield 35, 3) := by decide +kernel
theorem dX5_expect_57 : decode cX5_expect 57 = .ok (.iload_n 3, 1) := by decide +kernel
theorem dX5_expect_58 : decode cX5_expect 58 = .ok (.iaload, 1) := by decide +kernel
theorem dX5_expect_59 : decode cX5_expect 59 = .ok (.iload_n 1, 1) := by decide +kernel
theorem dX5_expect_60 : decode cX5_expect 60 = .ok (.bipush 6, 2) := by decide +kernel
theorem dX5_expect_62 : decode cX5_expect 62 = .ok (.irem, 1) := by decide +kernel
theorem dX5_expect_63 : decode cX5_expect 63 = .ok (.invokestatic 87, 3) := by decide +kernel
theorem dX5_expect_66 : decode cX5_expect 66 = .ok (.iastore, 1) := by decide +kernel
theorem dX5_expect_67 : decode cX5_expect 67 = .ok (.return_, 1) := by decide +kernel
theorem dX5_isFit_0 : decode cX5_isFit 0 = .ok (.aload_n 1, 1) := by decide +kernel
theorem dX5_isFit_1 : decode cX5_isFit 1 = .ok (.getfield 90, 3) := by decide +kernel
theorem dX5_isFit_4 : decode cX5_isFit 4 = .ok (.astore 5, 2) := by decide +kernel
theorem dX5_isFit_6 : decode cX5_isFit 6 = .ok (.iconst 0, 1) := by decide +kernel
theorem dX5_isFit_7 : decode cX5_isFit 7 = .ok (.istore 6, 2) := by decide +kernel
theorem dX5_isFit_9 : decode cX5_isFit 9 = .ok (.iload 6, 2) := by decide +kernel
theorem dX5_isFit_11 : decode cX5_isFit 11 = .ok (.iconst 5, 1) := by decide +kernel
theorem dX5_isFit_12 : decode cX5_isFit 12 = .ok (.if_icmp .ge 132, 3) := by decide +kernel
theorem dX5_isFit_15 : decode cX5_isFit 15 = .ok (.aload_n 0, 1) := by decide +kernel
theorem dX5_isFit_16 : decode cX5_isFit 16 = .ok (.getfield 35, 3) := by decide +kernel
theorem dX5_isFit_19 : decode cX5_isFit 19 = .ok (.iload 6, 2) := by decide +kernel
theorem dX5_isFit_21 : decode cX5_isFit 21 = .ok (.iaload, 1) := by decide +kernel
theorem dX5_isFit_22 : decode cX5_isFit 22 = .ok (.iconst (-1), 1) := by decide +kernel
theorem dX5_isFit_23 : decode cX5_isFit 23 = .ok (.if_icmp .ne 6, 3) := by decide +kernel
theorem dX5_isFit_26 : decode cX5_isFit 26 = .ok (.goto 112, 3) := by decide +kernel
theorem dX5_isFit_29 : decode cX5_isFit 29 = .ok (.aload_n 2, 1) := by decide +kernel
theorem dX5_isFit_30 : decode cX5_isFit 30 = .ok (.iload_n 3, 1) := by decide +kernel
theorem dX5_isFit_31 : decode cX5_isFit 31 = .ok (.iload_n 3, 1) := by decide +kernel
theorem dX5_isFit_32 : decode cX5_isFit 32 = .ok (.iload 4, 2) := by decide +kernel
theorem dX5_isFit_34 : decode cX5_isFit 34 = .ok (.aload 5, 2) := by decide +kernel
theorem dX5_isFit_36 : decode cX5_isFit 36 = .ok (.iconst 2, 1) := by decide +kernel
theorem dX5_isFit_37 : decode cX5_isFit 37 = .ok (.aload 5, 2) := by decide +kernel
theorem dX5_isFit_39 : decode cX5_isFit 39 = .ok (.iconst 3, 1) := by decide +kernel
theorem dX5_isFit_40 : decode cX5_isFit 40 = .ok (.iload 6, 2) := by decide +kernel
theorem dX5_isFit_42 : decode cX5_isFit 42 = .ok (.iconst 0, 1) := by decide +kernel
theorem dX5_isFit_43 : decode cX5_isFit 43 = .ok (.invokevirtual 94, 3) := by decide +kernel
theorem dX5_isFit_46 : decode cX5_isFit 46 = .ok (.iconst 0, 1) := by decide +kernel
theorem dX5_isFit_47 : decode cX5_isFit 47 = .ok (.invokevirtual 94, 3) := by decide +kernel
theorem dX5_isFit_50 : decode cX5_isFit 50 = .ok (.invokevirtual 100, 3) := by decide +kernel
theorem dX5_isFit_53 : decode cX5_isFit 53 = .ok (.iconst 0, 1) := by decide +kernel
theorem dX5_isFit_54 : decode cX5_isFit 54 = .ok (.istore 7, 2) := by decide +kernel
theorem dX5_isFit_56 : decode cX5_isFit 56 = .ok (.iload 7, 2) := by decide +kernel
theorem dX5_isFit_58 : decode cX5_isFit 58 = .ok (.aload_n 0, 1) := by decide +kernel
theorem dX5_isFit_59 : decode cX5_isFit 59 = .ok (.getfield 35, 3) := by decide +kernel
theorem dX5_isFit_62 : decode cX5_isFit 62 = .ok (.iload 6, 2) := by decide +kernel
theorem dX5_isFit_64 : decode cX5_isFit 64 = .ok (.iaload, 1) := by decide +kernel
theorem dX5_isFit_65 : decode cX5_isFit 65 = .ok (.if_icmp .gt 73, 3) := by decide +kernel
theorem dX5_isFit_68 : decode cX5_isFit 68 = .ok (.aload_n 2, 1) := by decide +kernel
theorem dX5_isFit_69 : decode cX5_isFit 69 = .ok (.aload_n 1, 1) := by decide +kernel
theorem dX5_isFit_70 : decode cX5_isFit 70 = .ok (.iload 7, 2) := by decide +kernel
theorem dX5_isFit_72 : decode cX5_isFit 72 = .ok (.aload 5, 2) := by decide +kernel
theorem dX5_isFit_74 : decode cX5_isFit 74 = .ok (.iconst 3, 1) := by decide +kernel
theorem dX5_isFit_75 : decode cX5_isFit 75 = .ok (.iload 6, 2) := by decide +kernel
theorem dX5_isFit_77 : decode cX5_isFit 77 = .ok (.iconst 1, 1) := by decide +kernel
theorem dX5_isFit_78 : decode cX5_isFit 78 = .ok (.iload 7, 2) := by decide +kernel
theorem dX5_isFit_80 : decode cX5_isFit 80 = .ok (.iadd, 1) := by decide +kernel
theorem dX5_isFit_81 : decode cX5_isFit 81 = .ok (.invokevirtual 94, 3) := by decide +kernel
theorem dX5_isFit_84 : decode cX5_isFit 84 = .ok (.aload_n 1, 1) := by decide +kernel
theorem dX5_isFit_85 : decode cX5_isFit 85 = .ok (.iload 7, 2) := by decide +kernel
theorem dX5_isFit_87 : decode cX5_isFit 87 = .ok (.invokevirtual 106, 3) := by decide +kernel
theorem dX5_isFit_90 : decode cX5_isFit 90 = .ok (.invokevirtual 110, 3) := by decide +kernel
theorem dX5_isFit_93 : decode cX5_isFit 93 = .ok (.aload_n 0, 1) := by decide +kernel
theorem dX5_isFit_94 : decode cX5_isFit 94 = .ok (.getfield 32, 3) := by decide +kernel
theorem dX5_isFit_97 : decode cX5_isFit 97 = .ok (.iload 6, 2) := by decide +kernel
theorem dX5_isFit_99 : decode cX5_isFit 99 = .ok (.bipush 6, 2) := by decide +kernel
theorem dX5_isFit_101 : decode cX5_isFit 101 = .ok (.imul, 1) := by decide +kernel
theorem dX5_isFit_102 : decode cX5_isFit 102 = .ok (.iload 7, 2) := by decide +kernel
theorem dX5_isFit_104 : decode cX5_isFit 104 = .ok (.iadd, 1) := by decide +kernel
theorem dX5_isFit_105 : decode cX5_isFit 105 = .ok (.iaload, 1) := by decide +kernel
theorem dX5_isFit_106 : decode cX5_isFit 106 = .ok (.istore 8, 2) := by decide +kernel
theorem dX5_isFit_108 : decode cX5_isFit 108 = .ok (.aload_n 2, 1) := by decide +kernel
theorem dX5_isFit_109 : decode cX5_isFit 109 = .ok (.invokevirtual 114, 3) := by decide +kernel
theorem dX5_isFit_112 : decode cX5_isFit 112 = .ok (.ifCond .ne 18, 3) := by decide +kernel
theorem dX5_isFit_115 : decode cX5_isFit 115 = .ok (.iload 8, 2) := by decide +kernel
theorem dX5_isFit_117 : decode cX5_isFit 117 = .ok (.iconst (-1), 1) := by decide +kernel
theorem dX5_isFit_118 : decode cX5_isFit 118 = .ok (.if_icmp .eq 14, 3) := by decide +kernel
theorem dX5_isFit_121 : decode cX5_isFit 121 = .ok (.iload 8, 2) := by decide +kernel
theorem dX5_isFit_123 : decode cX5_isFit 123 = .ok (.aload_n 2, 1) := by decide +kernel
theorem dX5_isFit_124 : decode cX5_isFit 124 = .ok (.getfield 118, 3) := by decide +kernel
theorem dX5_isFit_127 : decode cX5_isFit 127 = .ok (.if_icmp .eq 5, 3) := by decide +kernel
theorem dX5_isFit_130 : decode cX5_isFit 130 = .ok (.iconst 0, 1) := by decide +kernel
theorem dX5_isFit_131 : decode cX5_isFit 131 = .ok (.ireturn, 1) := by decide +kernel
theorem dX5_isFit_132 : decode cX5_isFit 132 = .ok (.iinc 7 1, 3) := by decide +kernel
theorem dX5_isFit_135 : decode cX5_isFit 135 = .ok (.goto (-79), 3) := by decide +kernel
theorem dX5_isFit_138 : decode cX5_isFit 138 = .ok (.iinc 6 1, 3) := by decide +kernel
theorem dX5_isFit_141 : decode cX5_isFit 141 = .ok (.goto (-132), 3) := by decide +kernel
theorem dX5_isFit_144 : decode cX5_isFit 144 = .ok (.iconst 1, 1) := by decide +kernel
theorem dX5_isFit_145 : decode cX5_isFit 145 = .ok (.ireturn, 1) := by decide +kernel
theorem dX5_widen_0 : decode cX5_widen 0 = .ok (.aload_n 0, 1) := by decide +kernel
theorem dX5_widen_1 : decode cX5_widen 1 = .ok (.getfield 51, 3) := by decide +kernel
theorem dX5_widen_4 : decode cX5_widen 4 = .ok (.iconst 0, 1) := by decide +kernel
theorem dX5_widen_5 : decode cX5_widen 5 = .ok (.aload_n 0, 1) := by decide +kernel
theorem dX5_widen_6 : decode cX5_widen 6 = .ok (.getfield 48, 3) := by decide +kernel
theorem dX5_widen_9 : decode cX5_widen 9 = .ok (.ifCond .ne 7, 3) := by decide +kernel
theorem dX5_widen_12 : decode cX5_widen 12 = .ok (.iload_n 1, 1) := by decide +kernel
theorem dX5_widen_13 : decode cX5_widen 13 = .ok (.goto 13, 3) := by decide +kernel
theorem dX5_widen_16 : decode cX5_widen 16 = .ok (.aload_n 0, 1) := by decide +kernel
theorem dX5_widen_17 : decode cX5_widen 17 = .ok (.getfield 51, 3) := by decide +kernel
theorem dX5_widen_20 : decode cX5_widen 20 = .ok (.iconst 0, 1) := by decide +kernel
theorem dX5_widen_21 : decode cX5_widen 21 = .ok (.iaload, 1) := by decide +kernel
theorem dX5_widen_22 : decode cX5_widen 22 = .ok (.iload_n 1, 1) := by decide +kernel
theorem dX5_widen_23 : decode cX5_widen 23 = .ok (.invokestatic 54, 3) := by decide +kernel
theorem dX5_widen_26 : decode cX5_widen 26 = .ok (.iastore, 1) := by decide +kernel
theorem dX5_widen_27 : decode cX5_widen 27 = .ok (.aload_n 0, 1) := by decide +kernel
theorem dX5_widen_28 : decode cX5_widen 28 = .ok (.getfield 51, 3) := by decide +kernel
theorem dX5_widen_31 : decode cX5_widen 31 = .ok (.iconst 1, 1) := by decide +kernel
theorem dX5_widen_32 : decode cX5_widen 32 = .ok (.aload_n 0, 1) := by decide +kernel
theorem dX5_widen_33 : decode cX5_widen 33 = .ok (.getfield 48, 3) := by decide +kernel
theorem dX5_widen_36 : decode cX5_widen 36 = .ok (.ifCond .ne 7, 3) := by decide +kernel
theorem dX5_widen_39 : decode cX5_widen 39 = .ok (.iload_n 1, 1) := by decide +kernel
theorem dX5_widen_40 : decode cX5_widen 40 = .ok (.goto 13, 3) := by decide +kernel
theorem dX5_widen_43 : decode cX5_widen 43 = .ok (.aload_n 0, 1) := by decide +kernel
theorem dX5_widen_44 : decode cX5_widen 44 = .ok (.getfield 51, 3) := by decide +kernel
theorem dX5_widen_47 : decode cX5_widen 47 = .ok (.iconst 1, 1) := by decide +kernel
theorem dX5_widen_48 : decode cX5_widen 48 = .ok (.iaload, 1) := by decide +kernel
theorem dX5_widen_49 : decode cX5_widen 49 = .ok (.iload_n 1, 1) := by decide +kernel
theorem dX5_widen_50 : decode cX5_widen 50 = .ok (.invokestatic 87, 3) := by decide +kernel
theorem dX5_widen_53 : decode cX5_widen 53 = .ok (.iastore, 1) := by decide +kernel
theorem dX5_widen_54 : decode cX5_widen 54 = .ok (.aload_n 0, 1) := by decide +kernel
theorem dX5_widen_55 : decode cX5_widen 55 = .ok (.getfield 51, 3) := by decide +kernel
theorem dX5_widen_58 : decode cX5_widen 58 = .ok (.iconst 2, 1) := by decide +kernel
theorem dX5_widen_59 : decode cX5_widen 59 = .ok (.aload_n 0, 1) := by decide +kernel
theorem dX5_widen_60 : decode cX5_widen 60 = .ok (.getfield 48, 3) := by decide +kernel
theorem dX5_widen_63 : decode cX5_widen 63 = .ok (.ifCond .ne 7, 3) := by decide +kernel
theorem dX5_widen_66 : decode cX5_widen 66 = .ok (.iload_n 2, 1) := by decide +kernel
theorem dX5_widen_67 : decode cX5_widen 67 = .ok (.goto 13, 3) := by decide +kernel
theorem dX5_widen_70 : decode cX5_widen 70 = .ok (.aload_n 0, 1) := by decide +kernel
theorem dX5_widen_71 : decode cX5_widen 71 = .ok (.getfield 51, 3) := by decide +kernel
theorem dX5_widen_74 : decode cX5_widen 74 = .ok (.iconst 2, 1) := by decide +kernel
theorem dX5_widen_75 : decode cX5_widen 75 = .ok (.iaload, 1) := by decide +kernel
theorem dX5_widen_76 : decode cX5_widen 76 = .ok (.iload_n 2, 1) := by decide +kernel
theorem dX5_widen_77 : decode cX5_widen 77 = .ok (.invokestatic 54, 3) := by decide +kernel
theorem dX5_widen_80 : decode cX5_widen 80 = .ok (.iastore, 1) := by decide +kernel
theorem dX5_widen_81 : decode cX5_widen 81 = .ok (.aload_n 0, 1) := by decide +kernel
theorem dX5_widen_82 : decode cX5_widen 82 = .ok (.getfield 51, 3) := by decide +kernel
theorem dX5_widen_85 : decode cX5_widen 85 = .ok (.iconst 3, 1) := by decide +kernel
theorem dX5_widen_86 : decode cX5_widen 86 = .ok (.aload_n 0, 1) := by decide +kernel
theorem dX5_widen_87 : decode cX5_widen 87 = .ok (.getfield 48, 3) := by decide +kernel
theorem dX5_widen_90 : decode cX5_widen 90 = .ok (.ifCond .ne 7, 3) := by decide +kernel
theorem dX5_widen_93 : decode cX5_widen 93 = .ok (.iload_n 2, 1) := by decide +kernel
theorem dX5_widen_94 : decode cX5_widen 94 = .ok (.goto 13, 3) := by decide +kernel
theorem dX5_widen_97 : decode cX5_widen 97 = .ok (.aload_n 0, 1) := by decide +kernel
theorem dX5_widen_98 : decode cX5_widen 98 = .ok (.getfield 51, 3) := by decide +kernel
theorem dX5_widen_101 : decode cX5_widen 101 = .ok (.iconst 3, 1) := by decide +kernel
theorem dX5_widen_102 : decode cX5_widen 102 = .ok (.iaload, 1) := by decide +kernel
theorem dX5_widen_103 : decode cX5_widen 103 = .ok (.iload_n 2, 1) := by decide +kernel
theorem dX5_widen_104 : decode cX5_widen 104 = .ok (.invokestatic 87, 3) := by decide +kernel
theorem dX5_widen_107 : decode cX5_widen 107 = .ok (.iastore, 1) := by decide +kernel
theorem dX5_widen_108 : decode cX5_widen 108 = .ok (.aload_n 0, 1) := by decide +kernel
theorem dX5_widen_109 : decode cX5_widen 109 = .ok (.dup, 1) := by decide +kernel
theorem dX5_widen_110 : decode cX5_widen 110 = .ok (.getfield 48, 3) := by decide +kernel
theorem dX5_widen_113 : decode cX5_widen 113 = .ok (.iconst 1, 1) := by decide +kernel
theorem dX5_widen_114 : decode cX5_widen 114 = .ok (.iadd, 1) := by decide +kernel
theorem dX5_widen_115 : decode cX5_widen 115 = .ok (.putfield 48, 3) := by decide +kernel
theorem dX5_widen_118 : decode cX5_widen 118 = .ok (.return_, 1) := by decide +kernel
theorem dX5_tells_0 : decode cX5_tells 0 = .ok (.iload_n 1, 1) := by decide +kernel
theorem dX5_tells_1 : decode cX5_tells 1 = .ok (.ifCond .ne 8, 3) := by decide +kernel
theorem dX5_tells_4 : decode cX5_tells 4 = .ok (.aload_n 0, 1) := by decide +kernel
theorem dX5_tells_5 : decode cX5_tells 5 = .ok (.getfield 48, 3) := by decide +kernel
theorem dX5_tells_8 : decode cX5_tells 8 = .ok (.ireturn, 1) := by decide +kernel
theorem dX5_tells_9 : decode cX5_tells 9 = .ok (.aload_n 0, 1) := by decide +kernel
theorem dX5_tells_10 : decode cX5_tells 10 = .ok (.getfield 48, 3) := by decide +kernel
theorem dX5_tells_13 : decode cX5_tells 13 = .ok (.ifCond .eq 13, 3) := by decide +kernel
theorem dX5_tells_16 : decode cX5_tells 16 = .ok (.iload_n 1, 1) := by decide +kernel
theorem dX5_tells_17 : decode cX5_tells 17 = .ok (.iconst 1, 1) := by decide +kernel
theorem dX5_tells_18 : decode cX5_tells 18 = .ok (.if_icmp .lt 8, 3) := by decide +kernel
theorem dX5_tells_21 : decode cX5_tells 21 = .ok (.iload_n 1, 1) := by decide +kernel
theorem dX5_tells_22 : decode cX5_tells 22 = .ok (.iconst 4, 1) := by decide +kernel
theorem dX5_tells_23 : decode cX5_tells 23 = .ok (.if_icmp .le 8, 3) := by decide +kernel
theorem dX5_tells_26 : decode cX5_tells 26 = .ok (.bipush (-2), 2) := by decide +kernel
theorem dX5_tells_28 : decode cX5_tells 28 = .ok (.goto 11, 3) := by decide +kernel
theorem dX5_tells_31 : decode cX5_tells 31 = .ok (.aload_n 0, 1) := by decide +kernel
theorem dX5_tells_32 : decode cX5_tells 32 = .ok (.getfield 51, 3) := by decide +kernel
theorem dX5_tells_35 : decode cX5_tells 35 = .ok (.iload_n 1, 1) := by decide +kernel
theorem dX5_tells_36 : decode cX5_tells 36 = .ok (.iconst 1, 1) := by decide +kernel
theorem dX5_tells_37 : decode cX5_tells 37 = .ok (.isub, 1) := by decide +kernel
theorem dX5_tells_38 : decode cX5_tells 38 = .ok (.iaload, 1) := by decide +kernel
theorem dX5_tells_39 : decode cX5_tells 39 = .ok (.ireturn, 1) := by decide +kernel
