theorem dX6_init_0 : decode cX6_init 0 = .ok (.aload_n 0, 1) := by decide +kernel
theorem dX6_init_1 : decode cX6_init 1 = .ok (.invokespecial 3, 3) := by decide +kernel
theorem dX6_init_4 : decode cX6_init 4 = .ok (.aload_n 0, 1) := by decide +kernel
theorem dX6_init_5 : decode cX6_init 5 = .ok (.iconst 0, 1) := by decide +kernel
theorem dX6_init_6 : decode cX6_init 6 = .ok (.putfield 9, 3) := by decide +kernel
theorem dX6_init_9 : decode cX6_init 9 = .ok (.aload_n 0, 1) := by decide +kernel
theorem dX6_init_10 : decode cX6_init 10 = .ok (.iconst 0, 1) := by decide +kernel
theorem dX6_init_11 : decode cX6_init 11 = .ok (.putfield 15, 3) := by decide +kernel
theorem dX6_init_14 : decode cX6_init 14 = .ok (.aload_n 0, 1) := by decide +kernel
theorem dX6_init_15 : decode cX6_init 15 = .ok (.bipush 20, 2) := by decide +kernel
theorem dX6_init_17 : decode cX6_init 17 = .ok (.putfield 18, 3) := by decide +kernel
theorem dX6_init_20 : decode cX6_init 20 = .ok (.aload_n 0, 1) := by decide +kernel
theorem dX6_init_21 : decode cX6_init 21 = .ok (.iconst 0, 1) := by decide +kernel
theorem dX6_init_22 : decode cX6_init 22 = .ok (.putfield 21, 3) := by decide +kernel
theorem dX6_init_25 : decode cX6_init 25 = .ok (.aload_n 0, 1) := by decide +kernel
theorem dX6_init_26 : decode cX6_init 26 = .ok (.iconst 0, 1) := by decide +kernel
theorem dX6_init_27 : decode cX6_init 27 = .ok (.putfield 24, 3) := by decide +kernel
theorem dX6_init_30 : decode cX6_init 30 = .ok (.aload_n 0, 1) := by decide +kernel
theorem dX6_init_31 : decode cX6_init 31 = .ok (.iconst (-1), 1) := by decide +kernel
theorem dX6_init_32 : decode cX6_init 32 = .ok (.putfield 27, 3) := by decide +kernel
theorem dX6_init_35 : decode cX6_init 35 = .ok (.aload_n 0, 1) := by decide +kernel
theorem dX6_init_36 : decode cX6_init 36 = .ok (.aload_n 1, 1) := by decide +kernel
theorem dX6_init_37 : decode cX6_init 37 = .ok (.putfield 30, 3) := by decide +kernel
theorem dX6_init_40 : decode cX6_init 40 = .ok (.return_, 1) := by decide +kernel
theorem dX6_begin_0 : decode cX6_begin 0 = .ok (.aload_n 0, 1) := by decide +kernel
theorem dX6_begin_1 : decode cX6_begin 1 = .ok (.iconst 0, 1) := by decide +kernel
theorem dX6_begin_2 : decode cX6_begin 2 = .ok (.putfield 15, 3) := by decide +kernel
theorem dX6_begin_5 : decode cX6_begin 5 = .ok (.aload_n 0, 1) := by decide +kernel
theorem dX6_begin_6 : decode cX6_begin 6 = .ok (.iload_n 1, 1) := by decide +kernel
theorem dX6_begin_7 : decode cX6_begin 7 = .ok (.aload_n 0, 1) := by decide +kernel
theorem dX6_begin_8 : decode cX6_begin 8 = .ok (.getfield 30, 3) := by decide +kernel
theorem dX6_begin_11 : decode cX6_begin 11 = .ok (.arraylength, 1) := by decide +kernel
theorem dX6_begin_12 : decode cX6_begin 12 = .ok (.invokestatic 34, 3) := by decide +kernel
theorem dX6_begin_15 : decode cX6_begin 15 = .ok (.putfield 9, 3) := by decide +kernel
theorem dX6_begin_18 : decode cX6_begin 18 = .ok (.return_, 1) := by decide +kernel
theorem dX6_next_0 : decode cX6_next 0 = .ok (.aload_n 0, 1) := by decide +kernel
theorem dX6_next_1 : decode cX6_next 1 = .ok (.getfield 15, 3) := by decide +kernel
theorem dX6_next_4 : decode cX6_next 4 = .ok (.aload_n 0, 1) := by decide +kernel
theorem dX6_next_5 : decode cX6_next 5 = .ok (.getfield 9, 3) := by decide +kernel
theorem dX6_next_8 : decode cX6_next 8 = .ok (.if_icmp .ge 44, 3) := by decide +kernel
theorem dX6_next_11 : decode cX6_next 11 = .ok (.aload_n 0, 1) := by decide +kernel
theorem dX6_next_12 : decode cX6_next 12 = .ok (.getfield 30, 3) := by decide +kernel
theorem dX6_next_15 : decode cX6_next 15 = .ok (.aload_n 0, 1) := by decide +kernel
theorem dX6_next_16 : decode cX6_next 16 = .ok (.getfield 15, 3) := by decide +kernel
theorem dX6_next_19 : decode cX6_next 19 = .ok (.iaload, 1) := by decide +kernel
theorem dX6_next_20 : decode cX6_next 20 = .ok (.bipush 32, 2) := by decide +kernel
theorem dX6_next_22 : decode cX6_next 22 = .ok (.if_icmp .eq 17, 3) := by decide +kernel
theorem dX6_next_25 : decode cX6_next 25 = .ok (.aload_n 0, 1) := by decide +kernel
theorem dX6_next_26 : decode cX6_next 26 = .ok (.getfield 30, 3) := by decide +kernel
theorem dX6_next_29 : decode cX6_next 29 = .ok (.aload_n 0, 1) := by decide +kernel
theorem dX6_next_30 : decode cX6_next 30 = .ok (.getfield 15, 3) := by decide +kernel
theorem dX6_next_33 : decode cX6_next 33 = .ok (.iaload, 1) := by decide +kernel
theorem dX6_next_34 : decode cX6_next 34 = .ok (.bipush 10, 2) := by decide +kernel
theorem dX6_next_36 : decode cX6_next 36 = .ok (.if_icmp .ne 16, 3) := by decide +kernel
theorem dX6_next_39 : decode cX6_next 39 = .ok (.aload_n 0, 1) := by decide +kernel
theorem dX6_next_40 : decode cX6_next 40 = .ok (.dup, 1) := by decide +kernel
theorem dX6_next_41 : decode cX6_next 41 = .ok (.getfield 15, 3) := by decide +kernel
theorem dX6_next_44 : decode cX6_next 44 = .ok (.iconst 1, 1) := by decide +kernel
theorem dX6_next_45 : decode cX6_next 45 = .ok (.iadd, 1) := by decide +kernel
theorem dX6_next_46 : decode cX6_next 46 = .ok (.putfield 15, 3) := by decide +kernel
theorem dX6_next_49 : decode cX6_next 49 = .ok (.goto (-49), 3) := by decide +kernel
theorem dX6_next_52 : decode cX6_next 52 = .ok (.aload_n 0, 1) := by decide +kernel
theorem dX6_next_53 : decode cX6_next 53 = .ok (.aload_n 0, 1) := by decide +kernel
theorem dX6_next_54 : decode cX6_next 54 = .ok (.getfield 15, 3) := by decide +kernel
theorem dX6_next_57 : decode cX6_next 57 = .ok (.putfield 21, 3) := by decide +kernel
theorem dX6_next_60 : decode cX6_next 60 = .ok (.aload_n 0, 1) := by decide +kernel
theorem dX6_next_61 : decode cX6_next 61 = .ok (.iconst (-1), 1) := by decide +kernel
theorem dX6_next_62 : decode cX6_next 62 = .ok (.putfield 27, 3) := by decide +kernel
theorem dX6_next_65 : decode cX6_next 65 = .ok (.aload_n 0, 1) := by decide +kernel
theorem dX6_next_66 : decode cX6_next 66 = .ok (.getfield 15, 3) := by decide +kernel
theorem dX6_next_69 : decode cX6_next 69 = .ok (.aload_n 0, 1) := by decide +kernel
theorem dX6_next_70 : decode cX6_next 70 = .ok (.getfield 9, 3) := by decide +kernel
theorem dX6_next_73 : decode cX6_next 73 = .ok (.if_icmp .lt 12, 3) := by decide +kernel
theorem dX6_next_76 : decode cX6_next 76 = .ok (.aload_n 0, 1) := by decide +kernel
theorem dX6_next_77 : decode cX6_next 77 = .ok (.bipush 20, 2) := by decide +kernel
theorem dX6_next_79 : decode cX6_next 79 = .ok (.putfield 18, 3) := by decide +kernel
theorem dX6_next_82 : decode cX6_next 82 = .ok (.goto 51, 3) := by decide +kernel
theorem dX6_next_85 : decode cX6_next 85 = .ok (.aload_n 0, 1) := by decide +kernel
theorem dX6_next_86 : decode cX6_next 86 = .ok (.getfield 30, 3) := by decide +kernel
theorem dX6_next_89 : decode cX6_next 89 = .ok (.aload_n 0, 1) := by decide +kernel
theorem dX6_next_90 : decode cX6_next 90 = .ok (.getfield 15, 3) := by decide +kernel
theorem dX6_next_93 : decode cX6_next 93 = .ok (.iaload, 1) := by decide +kernel
theorem dX6_next_94 : decode cX6_next 94 = .ok (.invokestatic 40, 3) := by decide +kernel
theorem dX6_next_97 : decode cX6_next 97 = .ok (.ifCond .eq 10, 3) := by decide +kernel
theorem dX6_next_100 : decode cX6_next 100 = .ok (.aload_n 0, 1) := by decide +kernel
theorem dX6_next_101 : decode cX6_next 101 = .ok (.invokevirtual 44, 3) := by decide +kernel
theorem dX6_next_104 : decode cX6_next 104 = .ok (.goto 29, 3) := by decide +kernel
theorem dX6_next_107 : decode cX6_next 107 = .ok (.aload_n 0, 1) := by decide +kernel
theorem dX6_next_108 : decode cX6_next 108 = .ok (.getfield 30, 3) := by decide +kernel
theorem dX6_next_111 : decode cX6_next 111 = .ok (.aload_n 0, 1) := by decide +kernel
theorem dX6_next_112 : decode cX6_next 112 = .ok (.getfield 15, 3) := by decide +kernel
theorem dX6_next_115 : decode cX6_next 115 = .ok (.iaload, 1) := by decide +kernel
theorem dX6_next_116 : decode cX6_next 116 = .ok (.invokestatic 47, 3) := by decide +kernel
theorem dX6_next_119 : decode cX6_next 119 = .ok (.ifCond .eq 10, 3) := by decide +kernel
theorem dX6_next_122 : decode cX6_next 122 = .ok (.aload_n 0, 1) := by decide +kernel
theorem dX6_next_123 : decode cX6_next 123 = .ok (.invokevirtual 50, 3) := by decide +kernel
theorem dX6_next_126 : decode cX6_next 126 = .ok (.goto 7, 3) := by decide +kernel
theorem dX6_next_129 : decode cX6_next 129 = .ok (.aload_n 0, 1) := by decide +kernel
theorem dX6_next_130 : decode cX6_next 130 = .ok (.invokevirtual 53, 3) := by decide +kernel
theorem dX6_next_133 : decode cX6_next 133 = .ok (.return_, 1) := by decide +kernel
theorem dX6_isLetter_0 : decode cX6_isLetter 0 = .ok (.iload_n 0, 1) := by decide +kernel
theorem dX6_isLetter_1 : decode cX6_isLetter 1 = .ok (.bipush 97, 2) := by decide +kernel
theorem dX6_isLetter_3 : decode cX6_isLetter 3 = .ok (.if_icmp .lt 13, 3) := by decide +kernel
theorem dX6_isLetter_6 : decode cX6_isLetter 6 = .ok (.iload_n 0, 1) := by decide +kernel
theorem dX6_isLetter_7 : decode cX6_isLetter 7 = .ok (.bipush 122, 2) := by decide +kernel
theorem dX6_isLetter_9 : decode cX6_isLetter 9 = .ok (.if_icmp .gt 7, 3) := by decide +kernel
theorem dX6_isLetter_12 : decode cX6_isLetter 12 = .ok (.iconst 1, 1) := by decide +kernel
theorem dX6_isLetter_13 : decode cX6_isLetter 13 = .ok (.goto 4, 3) := by decide +kernel
theorem dX6_isLetter_16 : decode cX6_isLetter 16 = .ok (.iconst 0, 1) := by decide +kernel
theorem dX6_isLetter_17 : decode cX6_isLetter 17 = .ok (.ireturn, 1) := by decide +kernel
theorem dX6_isDigit_0 : decode cX6_isDigit 0 = .ok (.iload_n 0, 1) := by decide +kernel
theorem dX6_isDigit_1 : decode cX6_isDigit 1 = .ok (.bipush 48, 2) := by decide +kernel
theorem dX6_isDigit_3 : decode cX6_isDigit 3 = .ok (.if_icmp .lt 13, 3) := by decide +kernel
theorem dX6_isDigit_6 : decode cX6_isDigit 6 = .ok (.iload_n 0, 1) := by decide +kernel
theorem dX6_isDigit_7 : decode cX6_isDigit 7 = .ok (.bipush 57, 2) := by decide +kernel
theorem dX6_isDigit_9 : decode cX6_isDigit 9 = .ok (.if_icmp .gt 7, 3) := by decide +kernel
theorem dX6_isDigit_12 : decode cX6_isDigit 12 = .ok (.iconst 1, 1) := by decide +kernel
theorem dX6_isDigit_13 : decode cX6_isDigit 13 = .ok (.goto 4, 3) := by decide +kernel
theorem dX6_isDigit_16 : decode cX6_isDigit 16 = .ok (.iconst 0, 1) := by decide +kernel
theorem dX6_isDigit_17 : decode cX6_isDigit 17 = .ok (.ireturn, 1) := by decide +kernel
theorem dX6_isName_0 : decode cX6_isName 0 = .ok (.aload_n 0, 1) := by decide +kernel
theorem dX6_isName_1 : decode cX6_isName 1 = .ok (.getfield 18, 3) := by decide +kernel
theorem dX6_isName_4 : decode cX6_isName 4 = .ok (.bipush 18, 2) := by decide +kernel
theorem dX6_isName_6 : decode cX6_isName 6 = .ok (.if_icmp .ne 15, 3) := by decide +kernel
theorem dX6_isName_9 : decode cX6_isName 9 = .ok (.aload_n 0, 1) := by decide +kernel
theorem dX6_isName_10 : decode cX6_isName 10 = .ok (.getfield 27, 3) := by decide +kernel
theorem dX6_isName_13 : decode cX6_isName 13 = .ok (.iconst (-1), 1) := by decide +kernel
theorem dX6_isName_14 : decode cX6_isName 14 = .ok (.if_icmp .ne 7, 3) := by decide +kernel
theorem dX6_isName_17 : decode cX6_isName 17 = .ok (.iconst 1, 1) := by decide +kernel
theorem dX6_isName_18 : decode cX6_isName 18 = .ok (.goto 4, 3) := by decide +kernel
theorem dX6_isName_21 : decode cX6_isName 21 = .ok (.iconst 0, 1) := by decide +kernel
theorem dX6_isName_22 : decode cX6_isName 22 = .ok (.ireturn, 1) := by decide +kernel
theorem dX6_readWord_0 : decode cX6_readWord 0 = .ok (.iconst 0, 1) := by decide +kernel
theorem dX6_readWord_1 : decode cX6_readWord 1 = .ok (.istore_n 1, 1) := by decide +kernel
theorem dX6_readWord_2 : decode cX6_readWord 2 = .ok (.aload_n 0, 1) := by decide +kernel
theorem dX6_readWord_3 : decode cX6_readWord 3 = .ok (.iconst 0, 1) := by decide +kernel
theorem dX6_readWord_4 : decode cX6_readWord 4 = .ok (.putfield 24, 3) := by decide +kernel
theorem dX6_readWord_7 : decode cX6_readWord 7 = .ok (.aload_n 0, 1) := by decide +kernel
theorem dX6_readWord_8 : decode cX6_readWord 8 = .ok (.getfield 15, 3) := by decide +kernel
theorem dX6_readWord_11 : decode cX6_readWord 11 = .ok (.aload_n 0, 1) := by decide +kernel
theorem dX6_readWord_12 : decode cX6_readWord 12 = .ok (.getfield 9, 3) := by decide +kernel
theorem dX6_readWord_15 : decode cX6_readWord 15 = .ok (.if_icmp .ge 70, 3) := by decide +kernel
theorem dX6_readWord_18 : decode cX6_readWord 18 = .ok (.aload_n 0, 1) := by decide +kernel
theorem dX6_readWord_19 : decode cX6_readWord 19 = .ok (.getfield 30, 3) := by decide +kernel
theorem dX6_readWord_22 : decode cX6_readWord 22 = .ok (.aload_n 0, 1) := by decide +kernel
theorem dX6_readWord_23 : decode cX6_readWord 23 = .ok (.getfield 15, 3) := by decide +kernel
theorem dX6_readWord_26 : decode cX6_readWord 26 = .ok (.iaload, 1) := by decide +kernel
theorem dX6_readWord_27 : decode cX6_readWord 27 = .ok (.invokestatic 40, 3) := by decide +kernel
theorem dX6_readWord_30 : decode cX6_readWord 30 = .ok (.ifCond .eq 55, 3) := by decide +kernel
theorem dX6_readWord_33 : decode cX6_readWord 33 = .ok (.iload_n 1, 1) := by decide +kernel
theorem dX6_readWord_34 : decode cX6_readWord 34 = .ok (.bipush 6, 2) := by decide +kernel
theorem dX6_readWord_36 : decode cX6_readWord 36 = .ok (.if_icmp .ge 33, 3) := by decide +kernel
theorem dX6_readWord_39 : decode cX6_readWord 39 = .ok (.aload_n 0, 1) := by decide +kernel
theorem dX6_readWord_40 : decode cX6_readWord 40 = .ok (.dup, 1) := by decide +kernel
theorem dX6_readWord_41 : decode cX6_readWord 41 = .ok (.getfield 24, 3) := by decide +kernel
theorem dX6_readWord_44 : decode cX6_readWord 44 = .ok (.aload_n 0, 1) := by decide +kernel
theorem dX6_readWord_45 : decode cX6_readWord 45 = .ok (.getfield 30, 3) := by decide +kernel
theorem dX6_readWord_48 : decode cX6_readWord 48 = .ok (.aload_n 0, 1) := by decide +kernel
theorem dX6_readWord_49 : decode cX6_readWord 49 = .ok (.getfield 15, 3) := by decide +kernel
theorem dX6_readWord_52 : decode cX6_readWord 52 = .ok (.iaload, 1) := by decide +kernel
theorem dX6_readWord_53 : decode cX6_readWord 53 = .ok (.bipush 97, 2) := by decide +kernel
theorem dX6_readWord_55 : decode cX6_readWord 55 = .ok (.isub, 1) := by decide +kernel
theorem dX6_readWord_56 : decode cX6_readWord 56 = .ok (.iconst 1, 1) := by decide +kernel
theorem dX6_readWord_57 : decode cX6_readWord 57 = .ok (.iadd, 1) := by decide +kernel
theorem dX6_readWord_58 : decode cX6_readWord 58 = .ok (.bipush 25, 2) := by decide +kernel
theorem dX6_readWord_60 : decode cX6_readWord 60 = .ok (.iconst 5, 1) := by decide +kernel
theorem dX6_readWord_61 : decode cX6_readWord 61 = .ok (.iload_n 1, 1) := by decide +kernel
theorem dX6_readWord_62 : decode cX6_readWord 62 = .ok (.imul, 1) := by decide +kernel
theorem dX6_readWord_63 : decode cX6_readWord 63 = .ok (.isub, 1) := by decide +kernel
theorem dX6_readWord_64 : decode cX6_readWord 64 = .ok (.ishl, 1) := by decide +kernel
theorem dX6_readWord_65 : decode cX6_readWord 65 = .ok (.ior, 1) := by decide +kernel
theorem dX6_readWord_66 : decode cX6_readWord 66 = .ok (.putfield 24, 3) := by decide +kernel
theorem dX6_readWord_69 : decode cX6_readWord 69 = .ok (.iinc 1 1, 3) := by decide +kernel
theorem dX6_readWord_72 : decode cX6_readWord 72 = .ok (.aload_n 0, 1) := by decide +kernel
theorem dX6_readWord_73 : decode cX6_readWord 73 = .ok (.dup, 1) := by decide +kernel
theorem dX6_readWord_74 : decode cX6_readWord 74 = .ok (.getfield 15, 3) := by decide +kernel
theorem dX6_readWord_77 : decode cX6_readWord 77 = .ok (.iconst 1, 1) := by decide +kernel
theorem dX6_readWord_78 : decode cX6_readWord 78 = .ok (.iadd, 1) := by decide +kernel
theorem dX6_readWord_79 : decode cX6_readWord 79 = .ok (.putfield 15, 3) := by decide +kernel
theorem dX6_readWord_82 : decode cX6_readWord 82 = .ok (.goto (-75), 3) := by decide +kernel
theorem dX6_readWord_85 : decode cX6_readWord 85 = .ok (.aload_n 0, 1) := by decide +kernel
theorem dX6_readWord_86 : decode cX6_readWord 86 = .ok (.iload_n 1, 1) := by decide +kernel
theorem dX6_readWord_87 : decode cX6_readWord 87 = .ok (.bipush 6, 2) := by decide +kernel
theorem dX6_readWord_89 : decode cX6_readWord 89 = .ok (.if_icmp .gt 8, 3) := by decide +kernel
theorem dX6_readWord_92 : decode cX6_readWord 92 = .ok (.bipush 18, 2) := by decide +kernel
theorem dX6_readWord_94 : decode cX6_readWord 94 = .ok (.goto 5, 3) := by decide +kernel
theorem dX6_readWord_97 : decode cX6_readWord 97 = .ok (.bipush 19, 2) := by decide +kernel
theorem dX6_readWord_99 : decode cX6_readWord 99 = .ok (.putfield 18, 3) := by decide +kernel
theorem dX6_readWord_102 : decode cX6_readWord 102 = .ok (.aload_n 0, 1) := by decide +kernel
theorem dX6_readWord_103 : decode cX6_readWord 103 = .ok (.getfield 18, 3) := by decide +kernel
theorem dX6_readWord_106 : decode cX6_readWord 106 = .ok (.bipush 18, 2) := by decide +kernel
theorem dX6_readWord_108 : decode cX6_readWord 108 = .ok (.if_icmp .ne 7, 3) := by decide +kernel
theorem dX6_readWord_111 : decode cX6_readWord 111 = .ok (.aload_n 0, 1) := by decide +kernel
theorem dX6_readWord_112 : decode cX6_readWord 112 = .ok (.invokevirtual 56, 3) := by decide +kernel
theorem dX6_readWord_115 : decode cX6_readWord 115 = .ok (.return_, 1) := by decide +kernel
theorem dX6_knowWord_0 : decode cX6_knowWord 0 = .ok (.iconst 0, 1) := by decide +kernel
theorem dX6_knowWord_1 : decode cX6_knowWord 1 = .ok (.istore_n 1, 1) := by decide +kernel
theorem dX6_knowWord_2 : decode cX6_knowWord 2 = .ok (.iload_n 1, 1) := by decide +kernel
theorem dX6_knowWord_3 : decode cX6_knowWord 3 = .ok (.getstatic 59, 3) := by decide +kernel
theorem dX6_knowWord_6 : decode cX6_knowWord 6 = .ok (.arraylength, 1) := by decide +kernel
theorem dX6_knowWord_7 : decode cX6_knowWord 7 = .ok (.if_icmp .ge 26, 3) := by decide +kernel
theorem dX6_knowWord_10 : decode cX6_knowWord 10 = .ok (.getstatic 59, 3) := by decide +kernel
theorem dX6_knowWord_13 : decode cX6_knowWord 13 = .ok (.iload_n 1, 1) := by decide +kernel
theorem dX6_knowWord_14 : decode cX6_knowWord 14 = .ok (.iaload, 1) := by decide +kernel
theorem dX6_knowWord_15 : decode cX6_knowWord 15 = .ok (.aload_n 0, 1) := by decide +kernel
theorem dX6_knowWord_16 : decode cX6_knowWord 16 = .ok (.getfield 24, 3) := by decide +kernel
theorem dX6_knowWord_19 : decode cX6_knowWord 19 = .ok (.if_icmp .ne 8, 3) := by decide +kernel
theorem dX6_knowWord_22 : decode cX6_knowWord 22 = .ok (.aload_n 0, 1) := by decide +kernel
theorem dX6_knowWord_23 : decode cX6_knowWord 23 = .ok (.iload_n 1, 1) := by decide +kernel
theorem dX6_knowWord_24 : decode cX6_knowWord 24 = .ok (.putfield 27, 3) := by decide +kernel
theorem dX6_knowWord_27 : decode cX6_knowWord 27 = .ok (.iinc 1 1, 3) := by decide +kernel
theorem dX6_knowWord_30 : decode cX6_knowWord 30 = .ok (.goto (-28), 3) := by decide +kernel
theorem dX6_knowWord_33 : decode cX6_knowWord 33 = .ok (.aload_n 0, 1) := by decide +kernel
theorem dX6_knowWord_34 : decode cX6_knowWord 34 = .ok (.getfield 27, 3) := by decide +kernel
theorem dX6_knowWord_37 : decode cX6_knowWord 37 = .ok (.bipush 8, 2) := by decide +kernel
theorem dX6_knowWord_39 : decode cX6_knowWord 39 = .ok (.if_icmp .lt 31, 3) := by decide +kernel
theorem dX6_knowWord_42 : decode cX6_knowWord 42 = .ok (.aload_n 0, 1) := by decide +kernel
theorem dX6_knowWord_43 : decode cX6_knowWord 43 = .ok (.getfield 27, 3) := by decide +kernel
theorem dX6_knowWord_46 : decode cX6_knowWord 46 = .ok (.bipush 16, 2) := by decide +kernel
theorem dX6_knowWord_48 : decode cX6_knowWord 48 = .ok (.if_icmp .ge 22, 3) := by decide +kernel
theorem dX6_knowWord_51 : decode cX6_knowWord 51 = .ok (.aload_n 0, 1) := by decide +kernel
theorem dX6_knowWord_52 : decode cX6_knowWord 52 = .ok (.iconst 1, 1) := by decide +kernel
theorem dX6_knowWord_53 : decode cX6_knowWord 53 = .ok (.putfield 18, 3) := by decide +kernel
theorem dX6_knowWord_56 : decode cX6_knowWord 56 = .ok (.aload_n 0, 1) := by decide +kernel
theorem dX6_knowWord_57 : decode cX6_knowWord 57 = .ok (.aload_n 0, 1) := by decide +kernel
theorem dX6_knowWord_58 : decode cX6_knowWord 58 = .ok (.getfield 27, 3) := by decide +kernel
theorem dX6_knowWord_61 : decode cX6_knowWord 61 = .ok (.bipush 8, 2) := by decide +kernel
theorem dX6_knowWord_63 : decode cX6_knowWord 63 = .ok (.isub, 1) := by decide +kernel
theorem dX6_knowWord_64 : decode cX6_knowWord 64 = .ok (.putfield 24, 3) := by decide +kernel
theorem dX6_knowWord_67 : decode cX6_knowWord 67 = .ok (.goto 51, 3) := by decide +kernel
theorem dX6_knowWord_70 : decode cX6_knowWord 70 = .ok (.aload_n 0, 1) := by decide +kernel
theorem dX6_knowWord_71 : decode cX6_knowWord 71 = .ok (.getfield 27, 3) := by decide +kernel
theorem dX6_knowWord_74 : decode cX6_knowWord 74 = .ok (.bipush 26, 2) := by decide +kernel
theorem dX6_knowWord_76 : decode cX6_knowWord 76 = .ok (.if_icmp .ne 11, 3) := by decide +kernel
theorem dX6_knowWord_79 : decode cX6_knowWord 79 = .ok (.aload_n 0, 1) := by decide +kernel
theorem dX6_knowWord_80 : decode cX6_knowWord 80 = .ok (.iconst 3, 1) := by decide +kernel
theorem dX6_knowWord_81 : decode cX6_knowWord 81 = .ok (.putfield 18, 3) := by decide +kernel
theorem dX6_knowWord_84 : decode cX6_knowWord 84 = .ok (.goto 34, 3) := by decide +kernel
theorem dX6_knowWord_87 : decode cX6_knowWord 87 = .ok (.aload_n 0, 1) := by decide +kernel
theorem dX6_knowWord_88 : decode cX6_knowWord 88 = .ok (.getfield 27, 3) := by decide +kernel
theorem dX6_knowWord_91 : decode cX6_knowWord 91 = .ok (.bipush 27, 2) := by decide +kernel
theorem dX6_knowWord_93 : decode cX6_knowWord 93 = .ok (.if_icmp .ne 11, 3) := by decide +kernel
theorem dX6_knowWord_96 : decode cX6_knowWord 96 = .ok (.aload_n 0, 1) := by decide +kernel
theorem dX6_knowWord_97 : decode cX6_knowWord 97 = .ok (.iconst 4, 1) := by decide +kernel
theorem dX6_knowWord_98 : decode cX6_knowWord 98 = .ok (.putfield 18, 3) := by decide +kernel
theorem dX6_knowWord_101 : decode cX6_knowWord 101 = .ok (.goto 17, 3) := by decide +kernel
theorem dX6_knowWord_104 : decode cX6_knowWord 104 = .ok (.aload_n 0, 1) := by decide +kernel
theorem dX6_knowWord_105 : decode cX6_knowWord 105 = .ok (.getfield 27, 3) := by decide +kernel
theorem dX6_knowWord_108 : decode cX6_knowWord 108 = .ok (.bipush 28, 2) := by decide +kernel
theorem dX6_knowWord_110 : decode cX6_knowWord 110 = .ok (.if_icmp .ne 8, 3) := by decide +kernel
theorem dX6_knowWord_113 : decode cX6_knowWord 113 = .ok (.aload_n 0, 1) := by decide +kernel
theorem dX6_knowWord_114 : decode cX6_knowWord 114 = .ok (.iconst 2, 1) := by decide +kernel
theorem dX6_knowWord_115 : decode cX6_knowWord 115 = .ok (.putfield 18, 3) := by decide +kernel
theorem dX6_knowWord_118 : decode cX6_knowWord 118 = .ok (.return_, 1) := by decide +kernel
theorem dX6_readNumber_0 : decode cX6_readNumber 0 = .ok (.aload_n 0, 1) := by decide +kernel
theorem dX6_readNumber_1 : decode cX6_readNumber 1 = .ok (.iconst 0, 1) := by decide +kernel
theorem dX6_readNumber_2 : decode cX6_readNumber 2 = .ok (.putfield 18, 3) := by decide +kernel
theorem dX6_readNumber_5 : decode cX6_readNumber 5 = .ok (.aload_n 0, 1) := by decide +kernel
theorem dX6_readNumber_6 : decode cX6_readNumber 6 = .ok (.iconst 0, 1) := by decide +kernel
theorem dX6_readNumber_7 : decode cX6_readNumber 7 = .ok (.putfield 24, 3) := by decide +kernel
theorem dX6_readNumber_10 : decode cX6_readNumber 10 = .ok (.aload_n 0, 1) := by decide +kernel
theorem dX6_readNumber_11 : decode cX6_readNumber 11 = .ok (.getfield 15, 3) := by decide +kernel
theorem dX6_readNumber_14 : decode cX6_readNumber 14 = .ok (.aload_n 0, 1) := by decide +kernel
theorem dX6_readNumber_15 : decode cX6_readNumber 15 = .ok (.getfield 9, 3) := by decide +kernel
theorem dX6_readNumber_18 : decode cX6_readNumber 18 = .ok (.if_icmp .ge 60, 3) := by decide +kernel
theorem dX6_readNumber_21 : decode cX6_readNumber 21 = .ok (.aload_n 0, 1) := by decide +kernel
theorem dX6_readNumber_22 : decode cX6_readNumber 22 = .ok (.getfield 30, 3) := by decide +kernel
theorem dX6_readNumber_25 : decode cX6_readNumber 25 = .ok (.aload_n 0, 1) := by decide +kernel
theorem dX6_readNumber_26 : decode cX6_readNumber 26 = .ok (.getfield 15, 3) := by decide +kernel
theorem dX6_readNumber_29 : decode cX6_readNumber 29 = .ok (.iaload, 1) := by decide +kernel
theorem dX6_readNumber_30 : decode cX6_readNumber 30 = .ok (.invokestatic 47, 3) := by decide +kernel
theorem dX6_readNumber_33 : decode cX6_readNumber 33 = .ok (.ifCond .eq 45, 3) := by decide +kernel
theorem dX6_readNumber_36 : decode cX6_readNumber 36 = .ok (.aload_n 0, 1) := by decide +kernel
theorem dX6_readNumber_37 : decode cX6_readNumber 37 = .ok (.aload_n 0, 1) := by decide +kernel
theorem dX6_readNumber_38 : decode cX6_readNumber 38 = .ok (.getfield 24, 3) := by decide +kernel
theorem dX6_readNumber_41 : decode cX6_readNumber 41 = .ok (.bipush 10, 2) := by decide +kernel
theorem dX6_readNumber_43 : decode cX6_readNumber 43 = .ok (.imul, 1) := by decide +kernel
theorem dX6_readNumber_44 : decode cX6_readNumber 44 = .ok (.aload_n 0, 1) := by decide +kernel
theorem dX6_readNumber_45 : decode cX6_readNumber 45 = .ok (.getfield 30, 3) := by decide +kernel
theorem dX6_readNumber_48 : decode cX6_readNumber 48 = .ok (.aload_n 0, 1) := by decide +kernel
theorem dX6_readNumber_49 : decode cX6_readNumber 49 = .ok (.getfield 15, 3) := by decide +kernel
theorem dX6_readNumber_52 : decode cX6_readNumber 52 = .ok (.iaload, 1) := by decide +kernel
theorem dX6_readNumber_53 : decode cX6_readNumber 53 = .ok (.iadd, 1) := by decide +kernel
theorem dX6_readNumber_54 : decode cX6_readNumber 54 = .ok (.bipush 48, 2) := by decide +kernel
theorem dX6_readNumber_56 : decode cX6_readNumber 56 = .ok (.isub, 1) := by decide +kernel
theorem dX6_readNumber_57 : decode cX6_readNumber 57 = .ok (.ldc 62, 2) := by decide +kernel
theorem dX6_readNumber_59 : decode cX6_readNumber 59 = .ok (.invokestatic 34, 3) := by decide +kernel
theorem dX6_readNumber_62 : decode cX6_readNumber 62 = .ok (.putfield 24, 3) := by decide +kernel
theorem dX6_readNumber_65 : decode cX6_readNumber 65 = .ok (.aload_n 0, 1) := by decide +kernel
theorem dX6_readNumber_66 : decode cX6_readNumber 66 = .ok (.dup, 1) := by decide +kernel
theorem dX6_readNumber_67 : decode cX6_readNumber 67 = .ok (.getfield 15, 3) := by decide +kernel
theorem dX6_readNumber_70 : decode cX6_readNumber 70 = .ok (.iconst 1, 1) := by decide +kernel
theorem dX6_readNumber_71 : decode cX6_readNumber 71 = .ok (.iadd, 1) := by decide +kernel
theorem dX6_readNumber_72 : decode cX6_readNumber 72 = .ok (.putfield 15, 3) := by decide +kernel
theorem dX6_readNumber_75 : decode cX6_readNumber 75 = .ok (.goto (-65), 3) := by decide +kernel
theorem dX6_readNumber_78 : decode cX6_readNumber 78 = .ok (.return_, 1) := by decide +kernel
theorem dX6_readSign_0 : decode cX6_readSign 0 = .ok (.aload_n 0, 1) := by decide +kernel
theorem dX6_readSign_1 : decode cX6_readSign 1 = .ok (.getfield 30, 3) := by decide +kernel
theorem dX6_readSign_4 : decode cX6_readSign 4 = .ok (.aload_n 0, 1) := by decide +kernel
theorem dX6_readSign_5 : decode cX6_readSign 5 = .ok (.getfield 15, 3) := by decide +kernel
theorem dX6_readSign_8 : decode cX6_readSign 8 = .ok (.iaload, 1) := by decide +kernel
theorem dX6_readSign_9 : decode cX6_readSign 9 = .ok (.istore_n 1, 1) := by decide +kernel
theorem dX6_readSign_10 : decode cX6_readSign 10 = .ok (.aload_n 0, 1) := by decide +kernel
theorem dX6_readSign_11 : decode cX6_readSign 11 = .ok (.dup, 1) := by decide +kernel
theorem dX6_readSign_12 : decode cX6_readSign 12 = .ok (.getfield 15, 3) := by decide +kernel
theorem dX6_readSign_15 : decode cX6_readSign 15 = .ok (.iconst 1, 1) := by decide +kernel
theorem dX6_readSign_16 : decode cX6_readSign 16 = .ok (.iadd, 1) := by decide +kernel
theorem dX6_readSign_17 : decode cX6_readSign 17 = .ok (.putfield 15, 3) := by decide +kernel
theorem dX6_readSign_20 : decode cX6_readSign 20 = .ok (.iload_n 1, 1) := by decide +kernel
theorem dX6_readSign_21 : decode cX6_readSign 21 = .ok (.tableswitch 238 40 62 #[211, 220, 193, 175, 238, 184, 238, 202, 238, 238, 238, 238, 238, 238, 238, 238, 238, 238, 238, 229, 107, 166, 143], 107) := by decide +kernel
theorem dX6_readSign_128 : decode cX6_readSign 128 = .ok (.aload_n 0, 1) := by decide +kernel
theorem dX6_readSign_129 : decode cX6_readSign 129 = .ok (.aload_n 0, 1) := by decide +kernel
theorem dX6_readSign_130 : decode cX6_readSign 130 = .ok (.bipush 61, 2) := by decide +kernel
theorem dX6_readSign_132 : decode cX6_readSign 132 = .ok (.invokevirtual 63, 3) := by decide +kernel
theorem dX6_readSign_135 : decode cX6_readSign 135 = .ok (.ifCond .eq 8, 3) := by decide +kernel
theorem dX6_readSign_138 : decode cX6_readSign 138 = .ok (.bipush 6, 2) := by decide +kernel
theorem dX6_readSign_140 : decode cX6_readSign 140 = .ok (.goto 18, 3) := by decide +kernel
theorem dX6_readSign_143 : decode cX6_readSign 143 = .ok (.aload_n 0, 1) := by decide +kernel
theorem dX6_readSign_144 : decode cX6_readSign 144 = .ok (.bipush 62, 2) := by decide +kernel
theorem dX6_readSign_146 : decode cX6_readSign 146 = .ok (.invokevirtual 63, 3) := by decide +kernel
theorem dX6_readSign_149 : decode cX6_readSign 149 = .ok (.ifCond .eq 8, 3) := by decide +kernel
theorem dX6_readSign_152 : decode cX6_readSign 152 = .ok (.bipush 8, 2) := by decide +kernel
theorem dX6_readSign_154 : decode cX6_readSign 154 = .ok (.goto 4, 3) := by decide +kernel
theorem dX6_readSign_157 : decode cX6_readSign 157 = .ok (.iconst 5, 1) := by decide +kernel
theorem dX6_readSign_158 : decode cX6_readSign 158 = .ok (.putfield 18, 3) := by decide +kernel
theorem dX6_readSign_161 : decode cX6_readSign 161 = .ok (.goto 104, 3) := by decide +kernel
theorem dX6_readSign_164 : decode cX6_readSign 164 = .ok (.aload_n 0, 1) := by decide +kernel
theorem dX6_readSign_165 : decode cX6_readSign 165 = .ok (.aload_n 0, 1) := by decide +kernel
theorem dX6_readSign_166 : decode cX6_readSign 166 = .ok (.bipush 61, 2) := by decide +kernel
theorem dX6_readSign_168 : decode cX6_readSign 168 = .ok (.invokevirtual 63, 3) := by decide +kernel
theorem dX6_readSign_171 : decode cX6_readSign 171 = .ok (.ifCond .eq 8, 3) := by decide +kernel
theorem dX6_readSign_174 : decode cX6_readSign 174 = .ok (.bipush 9, 2) := by decide +kernel
theorem dX6_readSign_176 : decode cX6_readSign 176 = .ok (.goto 5, 3) := by decide +kernel
theorem dX6_readSign_179 : decode cX6_readSign 179 = .ok (.bipush 10, 2) := by decide +kernel
theorem dX6_readSign_181 : decode cX6_readSign 181 = .ok (.putfield 18, 3) := by decide +kernel
theorem dX6_readSign_184 : decode cX6_readSign 184 = .ok (.goto 81, 3) := by decide +kernel
theorem dX6_readSign_187 : decode cX6_readSign 187 = .ok (.aload_n 0, 1) := by decide +kernel
theorem dX6_readSign_188 : decode cX6_readSign 188 = .ok (.bipush 7, 2) := by decide +kernel
theorem dX6_readSign_190 : decode cX6_readSign 190 = .ok (.putfield 18, 3) := by decide +kernel
theorem dX6_readSign_193 : decode cX6_readSign 193 = .ok (.goto 72, 3) := by decide +kernel
theorem dX6_readSign_196 : decode cX6_readSign 196 = .ok (.aload_n 0, 1) := by decide +kernel
theorem dX6_readSign_197 : decode cX6_readSign 197 = .ok (.bipush 11, 2) := by decide +kernel
theorem dX6_readSign_199 : decode cX6_readSign 199 = .ok (.putfield 18, 3) := by decide +kernel
theorem dX6_readSign_202 : decode cX6_readSign 202 = .ok (.goto 63, 3) := by decide +kernel
theorem dX6_readSign_205 : decode cX6_readSign 205 = .ok (.aload_n 0, 1) := by decide +kernel
theorem dX6_readSign_206 : decode cX6_readSign 206 = .ok (.bipush 12, 2) := by decide +kernel
theorem dX6_readSign_208 : decode cX6_readSign 208 = .ok (.putfield 18, 3) := by decide +kernel
theorem dX6_readSign_211 : decode cX6_readSign 211 = .ok (.goto 54, 3) := by decide +kernel
theorem dX6_readSign_214 : decode cX6_readSign 214 = .ok (.aload_n 0, 1) := by decide +kernel
theorem dX6_readSign_215 : decode cX6_readSign 215 = .ok (.bipush 13, 2) := by decide +kernel
theorem dX6_readSign_217 : decode cX6_readSign 217 = .ok (.putfield 18, 3) := by decide +kernel
theorem dX6_readSign_220 : decode cX6_readSign 220 = .ok (.goto 45, 3) := by decide +kernel
theorem dX6_readSign_223 : decode cX6_readSign 223 = .ok (.aload_n 0, 1) := by decide +kernel
theorem dX6_readSign_224 : decode cX6_readSign 224 = .ok (.bipush 14, 2) := by decide +kernel
theorem dX6_readSign_226 : decode cX6_readSign 226 = .ok (.putfield 18, 3) := by decide +kernel
theorem dX6_readSign_229 : decode cX6_readSign 229 = .ok (.goto 36, 3) := by decide +kernel
theorem dX6_readSign_232 : decode cX6_readSign 232 = .ok (.aload_n 0, 1) := by decide +kernel
theorem dX6_readSign_233 : decode cX6_readSign 233 = .ok (.bipush 15, 2) := by decide +kernel
theorem dX6_readSign_235 : decode cX6_readSign 235 = .ok (.putfield 18, 3) := by decide +kernel
theorem dX6_readSign_238 : decode cX6_readSign 238 = .ok (.goto 27, 3) := by decide +kernel
theorem dX6_readSign_241 : decode cX6_readSign 241 = .ok (.aload_n 0, 1) := by decide +kernel
theorem dX6_readSign_242 : decode cX6_readSign 242 = .ok (.bipush 16, 2) := by decide +kernel
theorem dX6_readSign_244 : decode cX6_readSign 244 = .ok (.putfield 18, 3) := by decide +kernel
theorem dX6_readSign_247 : decode cX6_readSign 247 = .ok (.goto 18, 3) := by decide +kernel
theorem dX6_readSign_250 : decode cX6_readSign 250 = .ok (.aload_n 0, 1) := by decide +kernel
theorem dX6_readSign_251 : decode cX6_readSign 251 = .ok (.bipush 17, 2) := by decide +kernel
theorem dX6_readSign_253 : decode cX6_readSign 253 = .ok (.putfield 18, 3) := by decide +kernel
theorem dX6_readSign_256 : decode cX6_readSign 256 = .ok (.goto 9, 3) := by decide +kernel
theorem dX6_readSign_259 : decode cX6_readSign 259 = .ok (.aload_n 0, 1) := by decide +kernel
theorem dX6_readSign_260 : decode cX6_readSign 260 = .ok (.bipush 19, 2) := by decide +kernel
theorem dX6_readSign_262 : decode cX6_readSign 262 = .ok (.putfield 18, 3) := by decide +kernel
theorem dX6_readSign_265 : decode cX6_readSign 265 = .ok (.return_, 1) := by decide +kernel
theorem dX6_take_0 : decode cX6_take 0 = .ok (.aload_n 0, 1) := by decide +kernel
theorem dX6_take_1 : decode cX6_take 1 = .ok (.getfield 15, 3) := by decide +kernel
theorem dX6_take_4 : decode cX6_take 4 = .ok (.aload_n 0, 1) := by decide +kernel
theorem dX6_take_5 : decode cX6_take 5 = .ok (.getfield 9, 3) := by decide +kernel
theorem dX6_take_8 : decode cX6_take 8 = .ok (.if_icmp .ge 16, 3) := by decide +kernel
theorem dX6_take_11 : decode cX6_take 11 = .ok (.aload_n 0, 1) := by decide +kernel
theorem dX6_take_12 : decode cX6_take 12 = .ok (.getfield 30, 3) := by decide +kernel
theorem dX6_take_15 : decode cX6_take 15 = .ok (.aload_n 0, 1) := by decide +kernel
theorem dX6_take_16 : decode cX6_take 16 = .ok (.getfield 15, 3) := by decide +kernel
theorem dX6_take_19 : decode cX6_take 19 = .ok (.iaload, 1) := by decide +kernel
theorem dX6_take_20 : decode cX6_take 20 = .ok (.iload_n 1, 1) := by decide +kernel
theorem dX6_take_21 : decode cX6_take 21 = .ok (.if_icmp .eq 5, 3) := by decide +kernel
theorem dX6_take_24 : decode cX6_take 24 = .ok (.iconst 0, 1) := by decide +kernel
theorem dX6_take_25 : decode cX6_take 25 = .ok (.ireturn, 1) := by decide +kernel
theorem dX6_take_26 : decode cX6_take 26 = .ok (.aload_n 0, 1) := by decide +kernel
theorem dX6_take_27 : decode cX6_take 27 = .ok (.dup, 1) := by decide +kernel
theorem dX6_take_28 : decode cX6_take 28 = .ok (.getfield 15, 3) := by decide +kernel
theorem dX6_take_31 : decode cX6_take 31 = .ok (.iconst 1, 1) := by decide +kernel
theorem dX6_take_32 : decode cX6_take 32 = .ok (.iadd, 1) := by decide +kernel
theorem dX6_take_33 : decode cX6_take 33 = .ok (.putfield 15, 3) := by decide +kernel
theorem dX6_take_36 : decode cX6_take 36 = .ok (.iconst 1, 1) := by decide +kernel
theorem dX6_take_37 : decode cX6_take 37 = .ok (.ireturn, 1) := by decide +kernel
theorem dX7_init_0 : decode cX7_init 0 = .ok (.aload_n 0, 1) := by decide +kernel
theorem dX7_init_1 : decode cX7_init 1 = .ok (.invokespecial 3, 3) := by decide +kernel
theorem dX7_init_4 : decode cX7_init 4 = .ok (.aload_n 0, 1) := by decide +kernel
theorem dX7_init_5 : decode cX7_init 5 = .ok (.iconst 5, 1) := by decide +kernel
theorem dX7_init_6 : decode cX7_init 6 = .ok (.anewarray 9, 3) := by decide +kernel
theorem dX7_init_9 : decode cX7_init 9 = .ok (.dup, 1) := by decide +kernel
theorem dX7_init_10 : decode cX7_init 10 = .ok (.iconst 0, 1) := by decide +kernel
theorem dX7_init_11 : decode cX7_init 11 = .ok (.new 9, 3) := by decide +kernel
theorem dX7_init_14 : decode cX7_init 14 = .ok (.dup, 1) := by decide +kernel
theorem dX7_init_15 : decode cX7_init 15 = .ok (.bipush 6, 2) := by decide +kernel
theorem dX7_init_17 : decode cX7_init 17 = .ok (.iconst 4, 1) := by decide +kernel
theorem dX7_init_18 : decode cX7_init 18 = .ok (.invokespecial 11, 3) := by decide +kernel
theorem dX7_init_21 : decode cX7_init 21 = .ok (.aastore, 1) := by decide +kernel
theorem dX7_init_22 : decode cX7_init 22 = .ok (.dup, 1) := by decide +kernel
theorem dX7_init_23 : decode cX7_init 23 = .ok (.iconst 1, 1) := by decide +kernel
theorem dX7_init_24 : decode cX7_init 24 = .ok (.new 9, 3) := by decide +kernel
theorem dX7_init_27 : decode cX7_init 27 = .ok (.dup, 1) := by decide +kernel
theorem dX7_init_28 : decode cX7_init 28 = .ok (.iconst 5, 1) := by decide +kernel
theorem dX7_init_29 : decode cX7_init 29 = .ok (.iconst 3, 1) := by decide +kernel
theorem dX7_init_30 : decode cX7_init 30 = .ok (.invokespecial 11, 3) := by decide +kernel
theorem dX7_init_33 : decode cX7_init 33 = .ok (.aastore, 1) := by decide +kernel
theorem dX7_init_34 : decode cX7_init 34 = .ok (.dup, 1) := by decide +kernel
theorem dX7_init_35 : decode cX7_init 35 = .ok (.iconst 2, 1) := by decide +kernel
theorem dX7_init_36 : decode cX7_init 36 = .ok (.new 9, 3) := by decide +kernel
theorem dX7_init_39 : decode cX7_init 39 = .ok (.dup, 1) := by decide +kernel
theorem dX7_init_40 : decode cX7_init 40 = .ok (.iconst 3, 1) := by decide +kernel
theorem dX7_init_41 : decode cX7_init 41 = .ok (.iconst 3, 1) := by decide +kernel
theorem dX7_init_42 : decode cX7_init 42 = .ok (.invokespecial 11, 3) := by decide +kernel
theorem dX7_init_45 : decode cX7_init 45 = .ok (.aastore, 1) := by decide +kernel
theorem dX7_init_46 : decode cX7_init 46 = .ok (.dup, 1) := by decide +kernel
theorem dX7_init_47 : decode cX7_init 47 = .ok (.iconst 3, 1) := by decide +kernel
theorem dX7_init_48 : decode cX7_init 48 = .ok (.new 9, 3) := by decide +kernel
theorem dX7_init_51 : decode cX7_init 51 = .ok (.dup, 1) := by decide +kernel
theorem dX7_init_52 : decode cX7_init 52 = .ok (.iconst 5, 1) := by decide +kernel
theorem dX7_init_53 : decode cX7_init 53 = .ok (.bipush 7, 2) := by decide +kernel
theorem dX7_init_55 : decode cX7_init 55 = .ok (.invokespecial 11, 3) := by decide +kernel
theorem dX7_init_58 : decode cX7_init 58 = .ok (.aastore, 1) := by decide +kernel
theorem dX7_init_59 : decode cX7_init 59 = .ok (.dup, 1) := by decide +kernel
theorem dX7_init_60 : decode cX7_init 60 = .ok (.iconst 4, 1) := by decide +kernel
theorem dX7_init_61 : decode cX7_init 61 = .ok (.new 9, 3) := by decide +kernel
theorem dX7_init_64 : decode cX7_init 64 = .ok (.dup, 1) := by decide +kernel
theorem dX7_init_65 : decode cX7_init 65 = .ok (.iconst 4, 1) := by decide +kernel
theorem dX7_init_66 : decode cX7_init 66 = .ok (.iconst 2, 1) := by decide +kernel
theorem dX7_init_67 : decode cX7_init 67 = .ok (.invokespecial 11, 3) := by decide +kernel
theorem dX7_init_70 : decode cX7_init 70 = .ok (.aastore, 1) := by decide +kernel
theorem dX7_init_71 : decode cX7_init 71 = .ok (.putfield 14, 3) := by decide +kernel
theorem dX7_init_74 : decode cX7_init 74 = .ok (.aload_n 0, 1) := by decide +kernel
theorem dX7_init_75 : decode cX7_init 75 = .ok (.new 20, 3) := by decide +kernel
theorem dX7_init_78 : decode cX7_init 78 = .ok (.dup, 1) := by decide +kernel
theorem dX7_init_79 : decode cX7_init 79 = .ok (.invokespecial 22, 3) := by decide +kernel
theorem dX7_init_82 : decode cX7_init 82 = .ok (.putfield 23, 3) := by decide +kernel
theorem dX7_init_85 : decode cX7_init 85 = .ok (.aload_n 0, 1) := by decide +kernel
theorem dX7_init_86 : decode cX7_init 86 = .ok (.iconst (-1), 1) := by decide +kernel
theorem dX7_init_87 : decode cX7_init 87 = .ok (.putfield 27, 3) := by decide +kernel
theorem dX7_init_90 : decode cX7_init 90 = .ok (.aload_n 0, 1) := by decide +kernel
theorem dX7_init_91 : decode cX7_init 91 = .ok (.iconst (-1), 1) := by decide +kernel
theorem dX7_init_92 : decode cX7_init 92 = .ok (.putfield 31, 3) := by decide +kernel
theorem dX7_init_95 : decode cX7_init 95 = .ok (.aload_n 0, 1) := by decide +kernel
theorem dX7_init_96 : decode cX7_init 96 = .ok (.iconst 0, 1) := by decide +kernel
theorem dX7_init_97 : decode cX7_init 97 = .ok (.putfield 34, 3) := by decide +kernel
theorem dX7_init_100 : decode cX7_init 100 = .ok (.return_, 1) := by decide +kernel
theorem dX7_clear_0 : decode cX7_clear 0 = .ok (.iconst 0, 1) := by decide +kernel
theorem dX7_clear_1 : decode cX7_clear 1 = .ok (.istore_n 1, 1) := by decide +kernel
theorem dX7_clear_2 : decode cX7_clear 2 = .ok (.iload_n 1, 1) := by decide +kernel
theorem dX7_clear_3 : decode cX7_clear 3 = .ok (.aload_n 0, 1) := by decide +kernel
theorem dX7_clear_4 : decode cX7_clear 4 = .ok (.getfield 14, 3) := by decide +kernel
theorem dX7_clear_7 : decode cX7_clear 7 = .ok (.arraylength, 1) := by decide +kernel
theorem dX7_clear_8 : decode cX7_clear 8 = .ok (.if_icmp .ge 19, 3) := by decide +kernel
theorem dX7_clear_11 : decode cX7_clear 11 = .ok (.aload_n 0, 1) := by decide +kernel
theorem dX7_clear_12 : decode cX7_clear 12 = .ok (.getfield 14, 3) := by decide +kernel
theorem dX7_clear_15 : decode cX7_clear 15 = .ok (.iload_n 1, 1) := by decide +kernel
theorem dX7_clear_16 : decode cX7_clear 16 = .ok (.aaload, 1) := by decide +kernel
theorem dX7_clear_17 : decode cX7_clear 17 = .ok (.iconst 0, 1) := by decide +kernel
theorem dX7_clear_18 : decode cX7_clear 18 = .ok (.putfield 37, 3) := by decide +kernel
theorem dX7_clear_21 : decode cX7_clear 21 = .ok (.iinc 1 1, 3) := by decide +kernel
theorem dX7_clear_24 : decode cX7_clear 24 = .ok (.goto (-22), 3) := by decide +kernel
theorem dX7_clear_27 : decode cX7_clear 27 = .ok (.aload_n 0, 1) := by decide +kernel
theorem dX7_clear_28 : decode cX7_clear 28 = .ok (.getfield 23, 3) := by decide +kernel
theorem dX7_clear_31 : decode cX7_clear 31 = .ok (.invokevirtual 40, 3) := by decide +kernel
theorem dX7_clear_34 : decode cX7_clear 34 = .ok (.aload_n 0, 1) := by decide +kernel
theorem dX7_clear_35 : decode cX7_clear 35 = .ok (.iconst (-1), 1) := by decide +kernel
theorem dX7_clear_36 : decode cX7_clear 36 = .ok (.putfield 27, 3) := by decide +kernel
theorem dX7_clear_39 : decode cX7_clear 39 = .ok (.aload_n 0, 1) := by decide +kernel
theorem dX7_clear_40 : decode cX7_clear 40 = .ok (.iconst (-1), 1) := by decide +kernel
theorem dX7_clear_41 : decode cX7_clear 41 = .ok (.putfield 31, 3) := by decide +kernel
theorem dX7_clear_44 : decode cX7_clear 44 = .ok (.aload_n 0, 1) := by decide +kernel
theorem dX7_clear_45 : decode cX7_clear 45 = .ok (.iconst 0, 1) := by decide +kernel
theorem dX7_clear_46 : decode cX7_clear 46 = .ok (.putfield 34, 3) := by decide +kernel
theorem dX7_clear_49 : decode cX7_clear 49 = .ok (.return_, 1) := by decide +kernel
theorem dX7_size_0 : decode cX7_size 0 = .ok (.iload_n 1, 1) := by decide +kernel
theorem dX7_size_1 : decode cX7_size 1 = .ok (.ifCond .lt 24, 3) := by decide +kernel
theorem dX7_size_4 : decode cX7_size 4 = .ok (.iload_n 1, 1) := by decide +kernel
theorem dX7_size_5 : decode cX7_size 5 = .ok (.aload_n 0, 1) := by decide +kernel
theorem dX7_size_6 : decode cX7_size 6 = .ok (.getfield 14, 3) := by decide +kernel
theorem dX7_size_9 : decode cX7_size 9 = .ok (.arraylength, 1) := by decide +kernel
theorem dX7_size_10 : decode cX7_size 10 = .ok (.if_icmp .ge 15, 3) := by decide +kernel
theorem dX7_size_13 : decode cX7_size 13 = .ok (.aload_n 0, 1) := by decide +kernel
theorem dX7_size_14 : decode cX7_size 14 = .ok (.getfield 14, 3) := by decide +kernel
theorem dX7_size_17 : decode cX7_size 17 = .ok (.iload_n 1, 1) := by decide +kernel
theorem dX7_size_18 : decode cX7_size 18 = .ok (.aaload, 1) := by decide +kernel
theorem dX7_size_19 : decode cX7_size 19 = .ok (.getfield 37, 3) := by decide +kernel
theorem dX7_size_22 : decode cX7_size 22 = .ok (.goto 4, 3) := by decide +kernel
theorem dX7_size_25 : decode cX7_size 25 = .ok (.iconst 0, 1) := by decide +kernel
theorem dX7_size_26 : decode cX7_size 26 = .ok (.ireturn, 1) := by decide +kernel
theorem dX7_has_0 : decode cX7_has 0 = .ok (.iload_n 1, 1) := by decide +kernel
theorem dX7_has_1 : decode cX7_has 1 = .ok (.ifCond .lt 33, 3) := by decide +kernel
theorem dX7_has_4 : decode cX7_has 4 = .ok (.iload_n 1, 1) := by decide +kernel
theorem dX7_has_5 : decode cX7_has 5 = .ok (.aload_n 0, 1) := by decide +kernel
theorem dX7_has_6 : decode cX7_has 6 = .ok (.getfield 14, 3) := by decide +kernel
theorem dX7_has_9 : decode cX7_has 9 = .ok (.arraylength, 1) := by decide +kernel
theorem dX7_has_10 : decode cX7_has 10 = .ok (.if_icmp .ge 24, 3) := by decide +kernel
theorem dX7_has_13 : decode cX7_has 13 = .ok (.iload_n 2, 1) := by decide +kernel
theorem dX7_has_14 : decode cX7_has 14 = .ok (.ifCond .lt 20, 3) := by decide +kernel
theorem dX7_has_17 : decode cX7_has 17 = .ok (.iload_n 2, 1) := by decide +kernel
theorem dX7_has_18 : decode cX7_has 18 = .ok (.aload_n 0, 1) := by decide +kernel
theorem dX7_has_19 : decode cX7_has 19 = .ok (.getfield 14, 3) := by decide +kernel
theorem dX7_has_22 : decode cX7_has 22 = .ok (.iload_n 1, 1) := by decide +kernel
theorem dX7_has_23 : decode cX7_has 23 = .ok (.aaload, 1) := by decide +kernel
theorem dX7_has_24 : decode cX7_has 24 = .ok (.getfield 37, 3) := by decide +kernel
theorem dX7_has_27 : decode cX7_has 27 = .ok (.if_icmp .ge 7, 3) := by decide +kernel
theorem dX7_has_30 : decode cX7_has 30 = .ok (.iconst 1, 1) := by decide +kernel
theorem dX7_has_31 : decode cX7_has 31 = .ok (.goto 4, 3) := by decide +kernel
theorem dX7_has_34 : decode cX7_has 34 = .ok (.iconst 0, 1) := by decide +kernel
theorem dX7_has_35 : decode cX7_has 35 = .ok (.ireturn, 1) := by decide +kernel
theorem dX7_at_0 : decode cX7_at 0 = .ok (.aload_n 0, 1) := by decide +kernel
theorem dX7_at_1 : decode cX7_at 1 = .ok (.iload_n 1, 1) := by decide +kernel
theorem dX7_at_2 : decode cX7_at 2 = .ok (.iload_n 2, 1) := by decide +kernel
theorem dX7_at_3 : decode cX7_at 3 = .ok (.invokevirtual 43, 3) := by decide +kernel
theorem dX7_at_6 : decode cX7_at 6 = .ok (.ifCond .eq 17, 3) := by decide +kernel
theorem dX7_at_9 : decode cX7_at 9 = .ok (.aload_n 0, 1) := by decide +kernel
theorem dX7_at_10 : decode cX7_at 10 = .ok (.getfield 14, 3) := by decide +kernel
theorem dX7_at_13 : decode cX7_at 13 = .ok (.iload_n 1, 1) := by decide +kernel
theorem dX7_at_14 : decode cX7_at 14 = .ok (.aaload, 1) := by decide +kernel
theorem dX7_at_15 : decode cX7_at 15 = .ok (.iload_n 2, 1) := by decide +kernel
theorem dX7_at_16 : decode cX7_at 16 = .ok (.iload_n 3, 1) := by decide +kernel
theorem dX7_at_17 : decode cX7_at 17 = .ok (.invokevirtual 47, 3) := by decide +kernel
theorem dX7_at_20 : decode cX7_at 20 = .ok (.goto 4, 3) := by decide +kernel
theorem dX7_at_23 : decode cX7_at 23 = .ok (.iconst 0, 1) := by decide +kernel
theorem dX7_at_24 : decode cX7_at 24 = .ok (.ireturn, 1) := by decide +kernel
theorem dX7_stepsAhead_0 : decode cX7_stepsAhead 0 = .ok (.iconst 0, 1) := by decide +kernel
theorem dX7_stepsAhead_1 : decode cX7_stepsAhead 1 = .ok (.istore_n 2, 1) := by decide +kernel
theorem dX7_stepsAhead_2 : decode cX7_stepsAhead 2 = .ok (.iconst 0, 1) := by decide +kernel
theorem dX7_stepsAhead_3 : decode cX7_stepsAhead 3 = .ok (.istore_n 3, 1) := by decide +kernel
theorem dX7_stepsAhead_4 : decode cX7_stepsAhead 4 = .ok (.iload_n 3, 1) := by decide +kernel
theorem dX7_stepsAhead_5 : decode cX7_stepsAhead 5 = .ok (.iload_n 1, 1) := by decide +kernel
theorem dX7_stepsAhead_6 : decode cX7_stepsAhead 6 = .ok (.if_icmp .ge 28, 3) := by decide +kernel
theorem dX7_stepsAhead_9 : decode cX7_stepsAhead 9 = .ok (.iload_n 3, 1) := by decide +kernel
theorem dX7_stepsAhead_10 : decode cX7_stepsAhead 10 = .ok (.aload_n 0, 1) := by decide +kernel
theorem dX7_stepsAhead_11 : decode cX7_stepsAhead 11 = .ok (.iconst 0, 1) := by decide +kernel
theorem dX7_stepsAhead_12 : decode cX7_stepsAhead 12 = .ok (.invokevirtual 51, 3) := by decide +kernel
theorem dX7_stepsAhead_15 : decode cX7_stepsAhead 15 = .ok (.if_icmp .ge 19, 3) := by decide +kernel
theorem dX7_stepsAhead_18 : decode cX7_stepsAhead 18 = .ok (.iload_n 2, 1) := by decide +kernel
theorem dX7_stepsAhead_19 : decode cX7_stepsAhead 19 = .ok (.aload_n 0, 1) := by decide +kernel
theorem dX7_stepsAhead_20 : decode cX7_stepsAhead 20 = .ok (.iconst 0, 1) := by decide +kernel
theorem dX7_stepsAhead_21 : decode cX7_stepsAhead 21 = .ok (.iload_n 3, 1) := by decide +kernel
theorem dX7_stepsAhead_22 : decode cX7_stepsAhead 22 = .ok (.iconst 0, 1) := by decide +kernel
theorem dX7_stepsAhead_23 : decode cX7_stepsAhead 23 = .ok (.invokevirtual 54, 3) := by decide +kernel
theorem dX7_stepsAhead_26 : decode cX7_stepsAhead 26 = .ok (.iadd, 1) := by decide +kernel
theorem dX7_stepsAhead_27 : decode cX7_stepsAhead 27 = .ok (.istore_n 2, 1) := by decide +kernel
theorem dX7_stepsAhead_28 : decode cX7_stepsAhead 28 = .ok (.iinc 3 1, 3) := by decide +kernel
theorem dX7_stepsAhead_31 : decode cX7_stepsAhead 31 = .ok (.goto (-27), 3) := by decide +kernel
theorem dX7_stepsAhead_34 : decode cX7_stepsAhead 34 = .ok (.iload_n 2, 1) := by decide +kernel
theorem dX7_stepsAhead_35 : decode cX7_stepsAhead 35 = .ok (.ireturn, 1) := by decide +kernel
theorem dX8_init_0 : decode cX8_init 0 = .ok (.aload_n 0, 1) := by decide +kernel
theorem dX8_init_1 : decode cX8_init 1 = .ok (.invokespecial 3, 3) := by decide +kernel
theorem dX8_init_4 : decode cX8_init 4 = .ok (.aload_n 0, 1) := by decide +kernel
theorem dX8_init_5 : decode cX8_init 5 = .ok (.iconst (-1), 1) := by decide +kernel
theorem dX8_init_6 : decode cX8_init 6 = .ok (.putfield 9, 3) := by decide +kernel
theorem dX8_init_9 : decode cX8_init 9 = .ok (.aload_n 0, 1) := by decide +kernel
theorem dX8_init_10 : decode cX8_init 10 = .ok (.iconst 0, 1) := by decide +kernel
theorem dX8_init_11 : decode cX8_init 11 = .ok (.putfield 15, 3) := by decide +kernel
theorem dX8_init_14 : decode cX8_init 14 = .ok (.aload_n 0, 1) := by decide +kernel
theorem dX8_init_15 : decode cX8_init 15 = .ok (.iconst 0, 1) := by decide +kernel
theorem dX8_init_16 : decode cX8_init 16 = .ok (.putfield 18, 3) := by decide +kernel
theorem dX8_init_19 : decode cX8_init 19 = .ok (.aload_n 0, 1) := by decide +kernel
theorem dX8_init_20 : decode cX8_init 20 = .ok (.iconst 0, 1) := by decide +kernel
theorem dX8_init_21 : decode cX8_init 21 = .ok (.putfield 21, 3) := by decide +kernel
theorem dX8_init_24 : decode cX8_init 24 = .ok (.aload_n 0, 1) := by decide +kernel
theorem dX8_init_25 : decode cX8_init 25 = .ok (.iconst 0, 1) := by decide +kernel
theorem dX8_init_26 : decode cX8_init 26 = .ok (.putfield 25, 3) := by decide +kernel
theorem dX8_init_29 : decode cX8_init 29 = .ok (.aload_n 0, 1) := by decide +kernel
theorem dX8_init_30 : decode cX8_init 30 = .ok (.iconst 0, 1) := by decide +kernel
theorem dX8_init_31 : decode cX8_init 31 = .ok (.putfield 28, 3) := by decide +kernel
theorem dX8_init_34 : decode cX8_init 34 = .ok (.aload_n 0, 1) := by decide +kernel
theorem dX8_init_35 : decode cX8_init 35 = .ok (.iconst 0, 1) := by decide +kernel
theorem dX8_init_36 : decode cX8_init 36 = .ok (.putfield 31, 3) := by decide +kernel
theorem dX8_init_39 : decode cX8_init 39 = .ok (.return_, 1) := by decide +kernel
theorem dX8_forget_0 : decode cX8_forget 0 = .ok (.aload_n 0, 1) := by decide +kernel
theorem dX8_forget_1 : decode cX8_forget 1 = .ok (.iconst (-1), 1) := by decide +kernel
theorem dX8_forget_2 : decode cX8_forget 2 = .ok (.putfield 9, 3) := by decide +kernel
theorem dX8_forget_5 : decode cX8_forget 5 = .ok (.return_, 1) := by decide +kernel
theorem dX8_seek_0 : decode cX8_seek 0 = .ok (.aload_n 0, 1) := by decide +kernel
theorem dX8_seek_1 : decode cX8_seek 1 = .ok (.getfield 9, 3) := by decide +kernel
theorem dX8_seek_4 : decode cX8_seek 4 = .ok (.iload_n 2, 1) := by decide +kernel
theorem dX8_seek_5 : decode cX8_seek 5 = .ok (.if_icmp .ne 21, 3) := by decide +kernel
theorem dX8_seek_8 : decode cX8_seek 8 = .ok (.aload_n 0, 1) := by decide +kernel
theorem dX8_seek_9 : decode cX8_seek 9 = .ok (.getfield 15, 3) := by decide +kernel
theorem dX8_seek_12 : decode cX8_seek 12 = .ok (.iload_n 3, 1) := by decide +kernel
theorem dX8_seek_13 : decode cX8_seek 13 = .ok (.if_icmp .ne 13, 3) := by decide +kernel
theorem dX8_seek_16 : decode cX8_seek 16 = .ok (.aload_n 0, 1) := by decide +kernel
theorem dX8_seek_17 : decode cX8_seek 17 = .ok (.getfield 18, 3) := by decide +kernel
theorem dX8_seek_20 : decode cX8_seek 20 = .ok (.iload 4, 2) := by decide +kernel
theorem dX8_seek_22 : decode cX8_seek 22 = .ok (.if_icmp .ne 4, 3) := by decide +kernel
theorem dX8_seek_25 : decode cX8_seek 25 = .ok (.return_, 1) := by decide +kernel
theorem dX8_seek_26 : decode cX8_seek 26 = .ok (.aload_n 0, 1) := by decide +kernel
theorem dX8_seek_27 : decode cX8_seek 27 = .ok (.iload_n 2, 1) := by decide +kernel
theorem dX8_seek_28 : decode cX8_seek 28 = .ok (.putfield 9, 3) := by decide +kernel
theorem dX8_seek_31 : decode cX8_seek 31 = .ok (.aload_n 0, 1) := by decide +kernel
theorem dX8_seek_32 : decode cX8_seek 32 = .ok (.iload_n 3, 1) := by decide +kernel
theorem dX8_seek_33 : decode cX8_seek 33 = .ok (.putfield 15, 3) := by decide +kernel
theorem dX8_seek_36 : decode cX8_seek 36 = .ok (.aload_n 0, 1) := by decide +kernel
theorem dX8_seek_37 : decode cX8_seek 37 = .ok (.iload 4, 2) := by decide +kernel
theorem dX8_seek_39 : decode cX8_seek 39 = .ok (.putfield 18, 3) := by decide +kernel
theorem dX8_seek_42 : decode cX8_seek 42 = .ok (.aload_n 0, 1) := by decide +kernel
theorem dX8_seek_43 : decode cX8_seek 43 = .ok (.iconst 0, 1) := by decide +kernel
theorem dX8_seek_44 : decode cX8_seek 44 = .ok (.putfield 21, 3) := by decide +kernel
theorem dX8_seek_47 : decode cX8_seek 47 = .ok (.aload_n 0, 1) := by decide +kernel
theorem dX8_seek_48 : decode cX8_seek 48 = .ok (.aload_n 1, 1) := by decide +kernel
theorem dX8_seek_49 : decode cX8_seek 49 = .ok (.iconst 0, 1) := by decide +kernel
theorem dX8_seek_50 : decode cX8_seek 50 = .ok (.iconst 0, 1) := by decide +kernel
theorem dX8_seek_51 : decode cX8_seek 51 = .ok (.iconst 0, 1) := by decide +kernel
theorem dX8_seek_52 : decode cX8_seek 52 = .ok (.iconst 0, 1) := by decide +kernel
theorem dX8_seek_53 : decode cX8_seek 53 = .ok (.iconst 0, 1) := by decide +kernel
theorem dX8_seek_54 : decode cX8_seek 54 = .ok (.invokevirtual 34, 3) := by decide +kernel
theorem dX8_seek_57 : decode cX8_seek 57 = .ok (.return_, 1) := by decide +kernel
theorem dX8_train_0 : decode cX8_train 0 = .ok (.iload_n 2, 1) := by decide +kernel
theorem dX8_train_1 : decode cX8_train 1 = .ok (.aload_n 0, 1) := by decide +kernel
theorem dX8_train_2 : decode cX8_train 2 = .ok (.getfield 15, 3) := by decide +kernel
theorem dX8_train_5 : decode cX8_train 5 = .ok (.if_icmp .lt 16, 3) := by decide +kernel
theorem dX8_train_8 : decode cX8_train 8 = .ok (.aload_n 0, 1) := by decide +kernel
theorem dX8_train_9 : decode cX8_train 9 = .ok (.iload_n 3, 1) := by decide +kernel
theorem dX8_train_10 : decode cX8_train 10 = .ok (.iload 4, 2) := by decide +kernel
theorem dX8_train_12 : decode cX8_train 12 = .ok (.isub, 1) := by decide +kernel
theorem dX8_train_13 : decode cX8_train 13 = .ok (.iload 5, 2) := by decide +kernel
theorem dX8_train_15 : decode cX8_train 15 = .ok (.iload 6, 2) := by decide +kernel
theorem dX8_train_17 : decode cX8_train 17 = .ok (.invokevirtual 38, 3) := by decide +kernel
theorem dX8_train_20 : decode cX8_train 20 = .ok (.return_, 1) := by decide +kernel
theorem dX8_train_21 : decode cX8_train 21 = .ok (.iconst 0, 1) := by decide +kernel
theorem dX8_train_22 : decode cX8_train 22 = .ok (.istore 7, 2) := by decide +kernel
theorem dX8_train_24 : decode cX8_train 24 = .ok (.iload 7, 2) := by decide +kernel
theorem dX8_train_26 : decode cX8_train 26 = .ok (.iconst 3, 1) := by decide +kernel
theorem dX8_train_27 : decode cX8_train 27 = .ok (.if_icmp .gt 104, 3) := by decide +kernel
theorem dX8_train_30 : decode cX8_train 30 = .ok (.aload_n 0, 1) := by decide +kernel
theorem dX8_train_31 : decode cX8_train 31 = .ok (.aload_n 1, 1) := by decide +kernel
theorem dX8_train_32 : decode cX8_train 32 = .ok (.getfield 42, 3) := by decide +kernel
theorem dX8_train_35 : decode cX8_train 35 = .ok (.iload_n 2, 1) := by decide +kernel
theorem dX8_train_36 : decode cX8_train 36 = .ok (.iload 7, 2) := by decide +kernel
theorem dX8_train_38 : decode cX8_train 38 = .ok (.iload_n 3, 1) := by decide +kernel
theorem dX8_train_39 : decode cX8_train 39 = .ok (.iload 4, 2) := by decide +kernel
theorem dX8_train_41 : decode cX8_train 41 = .ok (.invokevirtual 48, 3) := by decide +kernel
theorem dX8_train_44 : decode cX8_train 44 = .ok (.iload 5, 2) := by decide +kernel
theorem dX8_train_46 : decode cX8_train 46 = .ok (.aload_n 1, 1) := by decide +kernel
theorem dX8_train_47 : decode cX8_train 47 = .ok (.iconst 5, 1) := by decide +kernel
theorem dX8_train_48 : decode cX8_train 48 = .ok (.iconst 0, 1) := by decide +kernel
theorem dX8_train_49 : decode cX8_train 49 = .ok (.bipush 99, 2) := by decide +kernel
theorem dX8_train_51 : decode cX8_train 51 = .ok (.iconst 0, 1) := by decide +kernel
theorem dX8_train_52 : decode cX8_train 52 = .ok (.invokevirtual 52, 3) := by decide +kernel
theorem dX8_train_55 : decode cX8_train 55 = .ok (.iadd, 1) := by decide +kernel
theorem dX8_train_56 : decode cX8_train 56 = .ok (.istore 8, 2) := by decide +kernel
theorem dX8_train_58 : decode cX8_train 58 = .ok (.iload 8, 2) := by decide +kernel
theorem dX8_train_60 : decode cX8_train 60 = .ok (.aload_n 0, 1) := by decide +kernel
theorem dX8_train_61 : decode cX8_train 61 = .ok (.getfield 18, 3) := by decide +kernel
theorem dX8_train_64 : decode cX8_train 64 = .ok (.if_icmp .gt 61, 3) := by decide +kernel
theorem dX8_train_67 : decode cX8_train 67 = .ok (.iload_n 3, 1) := by decide +kernel
theorem dX8_train_68 : decode cX8_train 68 = .ok (.aload_n 1, 1) := by decide +kernel
theorem dX8_train_69 : decode cX8_train 69 = .ok (.iconst 3, 1) := by decide +kernel
theorem dX8_train_70 : decode cX8_train 70 = .ok (.bipush (-20), 2) := by decide +kernel
theorem dX8_train_72 : decode cX8_train 72 = .ok (.bipush 20, 2) := by decide +kernel
theorem dX8_train_74 : decode cX8_train 74 = .ok (.iconst 0, 1) := by decide +kernel
theorem dX8_train_75 : decode cX8_train 75 = .ok (.invokevirtual 52, 3) := by decide +kernel
theorem dX8_train_78 : decode cX8_train 78 = .ok (.iadd, 1) := by decide +kernel
theorem dX8_train_79 : decode cX8_train 79 = .ok (.invokestatic 56, 3) := by decide +kernel
theorem dX8_train_82 : decode cX8_train 82 = .ok (.istore 9, 2) := by decide +kernel
theorem dX8_train_84 : decode cX8_train 84 = .ok (.iload 4, 2) := by decide +kernel
theorem dX8_train_86 : decode cX8_train 86 = .ok (.aload_n 1, 1) := by decide +kernel
theorem dX8_train_87 : decode cX8_train 87 = .ok (.iconst 4, 1) := by decide +kernel
theorem dX8_train_88 : decode cX8_train 88 = .ok (.bipush (-20), 2) := by decide +kernel
theorem dX8_train_90 : decode cX8_train 90 = .ok (.bipush 20, 2) := by decide +kernel
theorem dX8_train_92 : decode cX8_train 92 = .ok (.iconst 0, 1) := by decide +kernel
theorem dX8_train_93 : decode cX8_train 93 = .ok (.invokevirtual 52, 3) := by decide +kernel
theorem dX8_train_96 : decode cX8_train 96 = .ok (.iadd, 1) := by decide +kernel
theorem dX8_train_97 : decode cX8_train 97 = .ok (.invokestatic 56, 3) := by decide +kernel
theorem dX8_train_100 : decode cX8_train 100 = .ok (.istore 10, 2) := by decide +kernel
theorem dX8_train_102 : decode cX8_train 102 = .ok (.aload_n 0, 1) := by decide +kernel
theorem dX8_train_103 : decode cX8_train 103 = .ok (.aload_n 1, 1) := by decide +kernel
theorem dX8_train_104 : decode cX8_train 104 = .ok (.iload_n 2, 1) := by decide +kernel
theorem dX8_train_105 : decode cX8_train 105 = .ok (.iconst 1, 1) := by decide +kernel
theorem dX8_train_106 : decode cX8_train 106 = .ok (.iadd, 1) := by decide +kernel
theorem dX8_train_107 : decode cX8_train 107 = .ok (.iload 9, 2) := by decide +kernel
theorem dX8_train_109 : decode cX8_train 109 = .ok (.iload 10, 2) := by decide +kernel
theorem dX8_train_111 : decode cX8_train 111 = .ok (.iload 8, 2) := by decide +kernel
theorem dX8_train_113 : decode cX8_train 113 = .ok (.iload 6, 2) := by decide +kernel
theorem dX8_train_115 : decode cX8_train 115 = .ok (.iload 7, 2) := by decide +kernel
theorem dX8_train_117 : decode cX8_train 117 = .ok (.iconst 2, 1) := by decide +kernel
theorem dX8_train_118 : decode cX8_train 118 = .ok (.iload_n 2, 1) := by decide +kernel
theorem dX8_train_119 : decode cX8_train 119 = .ok (.imul, 1) := by decide +kernel
theorem dX8_train_120 : decode cX8_train 120 = .ok (.ishl, 1) := by decide +kernel
theorem dX8_train_121 : decode cX8_train 121 = .ok (.ior, 1) := by decide +kernel
theorem dX8_train_122 : decode cX8_train 122 = .ok (.invokevirtual 34, 3) := by decide +kernel
theorem dX8_train_125 : decode cX8_train 125 = .ok (.iinc 7 1, 3) := by decide +kernel
theorem dX8_train_128 : decode cX8_train 128 = .ok (.goto (-104), 3) := by decide +kernel
theorem dX8_train_131 : decode cX8_train 131 = .ok (.return_, 1) := by decide +kernel
theorem dX8_give_0 : decode cX8_give 0 = .ok (.aload_n 1, 1) := by decide +kernel
theorem dX8_give_1 : decode cX8_give 1 = .ok (.iconst 0, 1) := by decide +kernel
theorem dX8_give_2 : decode cX8_give 2 = .ok (.iload_n 2, 1) := by decide +kernel
theorem dX8_give_3 : decode cX8_give 3 = .ok (.i2l, 1) := by decide +kernel
theorem dX8_give_4 : decode cX8_give 4 = .ok (.lastore, 1) := by decide +kernel
theorem dX8_give_5 : decode cX8_give 5 = .ok (.aload_n 1, 1) := by decide +kernel
theorem dX8_give_6 : decode cX8_give 6 = .ok (.iconst 1, 1) := by decide +kernel
theorem dX8_give_7 : decode cX8_give 7 = .ok (.lconst 0, 1) := by decide +kernel
theorem dX8_give_8 : decode cX8_give 8 = .ok (.lastore, 1) := by decide +kernel
theorem dX8_give_9 : decode cX8_give 9 = .ok (.aload_n 1, 1) := by decide +kernel
theorem dX8_give_10 : decode cX8_give 10 = .ok (.iconst 2, 1) := by decide +kernel
theorem dX8_give_11 : decode cX8_give 11 = .ok (.iload_n 3, 1) := by decide +kernel
theorem dX8_give_12 : decode cX8_give 12 = .ok (.i2l, 1) := by decide +kernel
theorem dX8_give_13 : decode cX8_give 13 = .ok (.lastore, 1) := by decide +kernel
theorem dX8_give_14 : decode cX8_give 14 = .ok (.aload_n 1, 1) := by decide +kernel
theorem dX8_give_15 : decode cX8_give 15 = .ok (.iconst 3, 1) := by decide +kernel
theorem dX8_give_16 : decode cX8_give 16 = .ok (.aload_n 0, 1) := by decide +kernel
theorem dX8_give_17 : decode cX8_give 17 = .ok (.getfield 9, 3) := by decide +kernel
theorem dX8_give_20 : decode cX8_give 20 = .ok (.i2l, 1) := by decide +kernel
theorem dX8_give_21 : decode cX8_give 21 = .ok (.lastore, 1) := by decide +kernel
theorem dX8_give_22 : decode cX8_give 22 = .ok (.aload_n 1, 1) := by decide +kernel
theorem dX8_give_23 : decode cX8_give 23 = .ok (.iconst 4, 1) := by decide +kernel
theorem dX8_give_24 : decode cX8_give 24 = .ok (.iload 4, 2) := by decide +kernel
theorem dX8_give_26 : decode cX8_give 26 = .ok (.i2l, 1) := by decide +kernel
theorem dX8_give_27 : decode cX8_give 27 = .ok (.lastore, 1) := by decide +kernel
theorem dX8_give_28 : decode cX8_give 28 = .ok (.aload_n 1, 1) := by decide +kernel
theorem dX8_give_29 : decode cX8_give 29 = .ok (.iconst 5, 1) := by decide +kernel
theorem dX8_give_30 : decode cX8_give 30 = .ok (.iload 5, 2) := by decide +kernel
theorem dX8_give_32 : decode cX8_give 32 = .ok (.i2l, 1) := by decide +kernel
theorem dX8_give_33 : decode cX8_give 33 = .ok (.lastore, 1) := by decide +kernel
theorem dX8_give_34 : decode cX8_give 34 = .ok (.aload_n 1, 1) := by decide +kernel
theorem dX8_give_35 : decode cX8_give 35 = .ok (.bipush 6, 2) := by decide +kernel
theorem dX8_give_37 : decode cX8_give 37 = .ok (.lconst 0, 1) := by decide +kernel
theorem dX8_give_38 : decode cX8_give 38 = .ok (.lastore, 1) := by decide +kernel
theorem dX8_give_39 : decode cX8_give 39 = .ok (.aload_n 1, 1) := by decide +kernel
theorem dX8_give_40 : decode cX8_give 40 = .ok (.bipush 7, 2) := by decide +kernel
theorem dX8_give_42 : decode cX8_give 42 = .ok (.lconst 0, 1) := by decide +kernel
theorem dX8_give_43 : decode cX8_give 43 = .ok (.lastore, 1) := by decide +kernel
theorem dX8_give_44 : decode cX8_give 44 = .ok (.return_, 1) := by decide +kernel
theorem dX8_bounded_0 : decode cX8_bounded 0 = .ok (.iconst 0, 1) := by decide +kernel
theorem dX8_bounded_1 : decode cX8_bounded 1 = .ok (.bipush 60, 2) := by decide +kernel
theorem dX8_bounded_3 : decode cX8_bounded 3 = .ok (.iload_n 0, 1) := by decide +kernel
theorem dX8_bounded_4 : decode cX8_bounded 4 = .ok (.invokestatic 60, 3) := by decide +kernel
theorem dX8_bounded_7 : decode cX8_bounded 7 = .ok (.invokestatic 66, 3) := by decide +kernel
theorem dX8_bounded_10 : decode cX8_bounded 10 = .ok (.ireturn, 1) := by decide +kernel
theorem dX8_weigh_0 : decode cX8_weigh 0 = .ok (.aload_n 0, 1) := by decide +kernel
theorem dX8_weigh_1 : decode cX8_weigh 1 = .ok (.getfield 21, 3) := by decide +kernel
theorem dX8_weigh_4 : decode cX8_weigh 4 = .ok (.ifCond .eq 27, 3) := by decide +kernel
theorem dX8_weigh_7 : decode cX8_weigh 7 = .ok (.iload_n 1, 1) := by decide +kernel
theorem dX8_weigh_8 : decode cX8_weigh 8 = .ok (.aload_n 0, 1) := by decide +kernel
theorem dX8_weigh_9 : decode cX8_weigh 9 = .ok (.getfield 25, 3) := by decide +kernel
theorem dX8_weigh_12 : decode cX8_weigh 12 = .ok (.if_icmp .gt 19, 3) := by decide +kernel
theorem dX8_weigh_15 : decode cX8_weigh 15 = .ok (.iload_n 1, 1) := by decide +kernel
theorem dX8_weigh_16 : decode cX8_weigh 16 = .ok (.aload_n 0, 1) := by decide +kernel
theorem dX8_weigh_17 : decode cX8_weigh 17 = .ok (.getfield 25, 3) := by decide +kernel
theorem dX8_weigh_20 : decode cX8_weigh 20 = .ok (.if_icmp .ne 31, 3) := by decide +kernel
theorem dX8_weigh_23 : decode cX8_weigh 23 = .ok (.iload_n 2, 1) := by decide +kernel
theorem dX8_weigh_24 : decode cX8_weigh 24 = .ok (.aload_n 0, 1) := by decide +kernel
theorem dX8_weigh_25 : decode cX8_weigh 25 = .ok (.getfield 28, 3) := by decide +kernel
theorem dX8_weigh_28 : decode cX8_weigh 28 = .ok (.if_icmp .ge 23, 3) := by decide +kernel
theorem dX8_weigh_31 : decode cX8_weigh 31 = .ok (.aload_n 0, 1) := by decide +kernel
theorem dX8_weigh_32 : decode cX8_weigh 32 = .ok (.iconst 1, 1) := by decide +kernel
theorem dX8_weigh_33 : decode cX8_weigh 33 = .ok (.putfield 21, 3) := by decide +kernel
theorem dX8_weigh_36 : decode cX8_weigh 36 = .ok (.aload_n 0, 1) := by decide +kernel
theorem dX8_weigh_37 : decode cX8_weigh 37 = .ok (.iload_n 1, 1) := by decide +kernel
theorem dX8_weigh_38 : decode cX8_weigh 38 = .ok (.putfield 25, 3) := by decide +kernel
theorem dX8_weigh_41 : decode cX8_weigh 41 = .ok (.aload_n 0, 1) := by decide +kernel
theorem dX8_weigh_42 : decode cX8_weigh 42 = .ok (.iload_n 2, 1) := by decide +kernel
theorem dX8_weigh_43 : decode cX8_weigh 43 = .ok (.putfield 28, 3) := by decide +kernel
theorem dX8_weigh_46 : decode cX8_weigh 46 = .ok (.aload_n 0, 1) := by decide +kernel
theorem dX8_weigh_47 : decode cX8_weigh 47 = .ok (.iload_n 3, 1) := by decide +kernel
theorem dX8_weigh_48 : decode cX8_weigh 48 = .ok (.putfield 31, 3) := by decide +kernel
theorem dX8_weigh_51 : decode cX8_weigh 51 = .ok (.return_, 1) := by decide +kernel
theorem dX9_init_0 : decode cX9_init 0 = .ok (.aload_n 0, 1) := by decide +kernel
theorem dX9_init_1 : decode cX9_init 1 = .ok (.invokespecial 3, 3) := by decide +kernel
theorem dX9_init_4 : decode cX9_init 4 = .ok (.aload_n 0, 1) := by decide +kernel
theorem dX9_init_5 : decode cX9_init 5 = .ok (.iconst 0, 1) := by decide +kernel
theorem dX9_init_6 : decode cX9_init 6 = .ok (.putfield 9, 3) := by decide +kernel
theorem dX9_init_9 : decode cX9_init 9 = .ok (.aload_n 0, 1) := by decide +kernel
theorem dX9_init_10 : decode cX9_init 10 = .ok (.iconst 5, 1) := by decide +kernel
theorem dX9_init_11 : decode cX9_init 11 = .ok (.newarray .int, 2) := by decide +kernel
theorem dX9_init_13 : decode cX9_init 13 = .ok (.putfield 15, 3) := by decide +kernel
theorem dX9_init_16 : decode cX9_init 16 = .ok (.aload_n 0, 1) := by decide +kernel
theorem dX9_init_17 : decode cX9_init 17 = .ok (.iconst 5, 1) := by decide +kernel
theorem dX9_init_18 : decode cX9_init 18 = .ok (.newarray .int, 2) := by decide +kernel
theorem dX9_init_20 : decode cX9_init 20 = .ok (.putfield 19, 3) := by decide +kernel
theorem dX9_init_23 : decode cX9_init 23 = .ok (.return_, 1) := by decide +kernel
theorem dX9_isOf_0 : decode cX9_isOf 0 = .ok (.iload_n 1, 1) := by decide +kernel
theorem dX9_isOf_1 : decode cX9_isOf 1 = .ok (.aload_n 0, 1) := by decide +kernel
theorem dX9_isOf_2 : decode cX9_isOf 2 = .ok (.getfield 9, 3) := by decide +kernel
theorem dX9_isOf_5 : decode cX9_isOf 5 = .ok (.iconst (-1), 1) := by decide +kernel
theorem dX9_isOf_6 : decode cX9_isOf 6 = .ok (.ixor, 1) := by decide +kernel
theorem dX9_isOf_7 : decode cX9_isOf 7 = .ok (.iand, 1) := by decide +kernel
theorem dX9_isOf_8 : decode cX9_isOf 8 = .ok (.ifCond .ne 7, 3) := by decide +kernel
theorem dX9_isOf_11 : decode cX9_isOf 11 = .ok (.iconst 1, 1) := by decide +kernel
theorem dX9_isOf_12 : decode cX9_isOf 12 = .ok (.goto 4, 3) := by decide +kernel
theorem dX9_isOf_15 : decode cX9_isOf 15 = .ok (.iconst 0, 1) := by decide +kernel
theorem dX9_isOf_16 : decode cX9_isOf 16 = .ok (.ireturn, 1) := by decide +kernel
theorem dX9_loss_0 : decode cX9_loss 0 = .ok (.iload_n 2, 1) := by decide +kernel
theorem dX9_loss_1 : decode cX9_loss 1 = .ok (.iconst 1, 1) := by decide +kernel
theorem dX9_loss_2 : decode cX9_loss 2 = .ok (.iload_n 1, 1) := by decide +kernel
theorem dX9_loss_3 : decode cX9_loss 3 = .ok (.ishl, 1) := by decide +kernel
theorem dX9_loss_4 : decode cX9_loss 4 = .ok (.iconst (-1), 1) := by decide +kernel
theorem dX9_loss_5 : decode cX9_loss 5 = .ok (.ixor, 1) := by decide +kernel
theorem dX9_loss_6 : decode cX9_loss 6 = .ok (.iand, 1) := by decide +kernel
theorem dX9_loss_7 : decode cX9_loss 7 = .ok (.invokestatic 22, 3) := by decide +kernel
theorem dX9_loss_10 : decode cX9_loss 10 = .ok (.istore_n 3, 1) := by decide +kernel
theorem dX9_loss_11 : decode cX9_loss 11 = .ok (.iload_n 2, 1) := by decide +kernel
theorem dX9_loss_12 : decode cX9_loss 12 = .ok (.iload_n 1, 1) := by decide +kernel
theorem dX9_loss_13 : decode cX9_loss 13 = .ok (.ishr, 1) := by decide +kernel
theorem dX9_loss_14 : decode cX9_loss 14 = .ok (.iconst 1, 1) := by decide +kernel
theorem dX9_loss_15 : decode cX9_loss 15 = .ok (.iand, 1) := by decide +kernel
theorem dX9_loss_16 : decode cX9_loss 16 = .ok (.ifCond .eq 14, 3) := by decide +kernel
theorem dX9_loss_19 : decode cX9_loss 19 = .ok (.aload_n 0, 1) := by decide +kernel
theorem dX9_loss_20 : decode cX9_loss 20 = .ok (.getfield 15, 3) := by decide +kernel
theorem dX9_loss_23 : decode cX9_loss 23 = .ok (.iload_n 1, 1) := by decide +kernel
theorem dX9_loss_24 : decode cX9_loss 24 = .ok (.iaload, 1) := by decide +kernel
theorem dX9_loss_25 : decode cX9_loss 25 = .ok (.iload_n 3, 1) := by decide +kernel
theorem dX9_loss_26 : decode cX9_loss 26 = .ok (.imul, 1) := by decide +kernel
theorem dX9_loss_27 : decode cX9_loss 27 = .ok (.goto 9, 3) := by decide +kernel
theorem dX9_loss_30 : decode cX9_loss 30 = .ok (.aload_n 0, 1) := by decide +kernel
theorem dX9_loss_31 : decode cX9_loss 31 = .ok (.getfield 19, 3) := by decide +kernel
theorem dX9_loss_34 : decode cX9_loss 34 = .ok (.iload_n 1, 1) := by decide +kernel
theorem dX9_loss_35 : decode cX9_loss 35 = .ok (.iaload, 1) := by decide +kernel
theorem dX9_loss_36 : decode cX9_loss 36 = .ok (.ireturn, 1) := by decide +kernel
theorem dX9_isRest_0 : decode cX9_isRest 0 = .ok (.aload_n 0, 1) := by decide +kernel
theorem dX9_isRest_1 : decode cX9_isRest 1 = .ok (.iload_n 1, 1) := by decide +kernel
theorem dX9_isRest_2 : decode cX9_isRest 2 = .ok (.invokevirtual 28, 3) := by decide +kernel
theorem dX9_isRest_5 : decode cX9_isRest 5 = .ok (.ifCond .ne 5, 3) := by decide +kernel
theorem dX9_isRest_8 : decode cX9_isRest 8 = .ok (.iconst 0, 1) := by decide +kernel
theorem dX9_isRest_9 : decode cX9_isRest 9 = .ok (.ireturn, 1) := by decide +kernel
theorem dX9_isRest_10 : decode cX9_isRest 10 = .ok (.iconst 0, 1) := by decide +kernel
theorem dX9_isRest_11 : decode cX9_isRest 11 = .ok (.istore_n 2, 1) := by decide +kernel
theorem dX9_isRest_12 : decode cX9_isRest 12 = .ok (.iload_n 2, 1) := by decide +kernel
theorem dX9_isRest_13 : decode cX9_isRest 13 = .ok (.iconst 5, 1) := by decide +kernel
theorem dX9_isRest_14 : decode cX9_isRest 14 = .ok (.if_icmp .ge 51, 3) := by decide +kernel
theorem dX9_isRest_17 : decode cX9_isRest 17 = .ok (.aload_n 0, 1) := by decide +kernel
theorem dX9_isRest_18 : decode cX9_isRest 18 = .ok (.getfield 9, 3) := by decide +kernel
theorem dX9_isRest_21 : decode cX9_isRest 21 = .ok (.iload_n 2, 1) := by decide +kernel
theorem dX9_isRest_22 : decode cX9_isRest 22 = .ok (.ishr, 1) := by decide +kernel
theorem dX9_isRest_23 : decode cX9_isRest 23 = .ok (.iconst 1, 1) := by decide +kernel
theorem dX9_isRest_24 : decode cX9_isRest 24 = .ok (.iand, 1) := by decide +kernel
theorem dX9_isRest_25 : decode cX9_isRest 25 = .ok (.ifCond .eq 7, 3) := by decide +kernel
theorem dX9_isRest_28 : decode cX9_isRest 28 = .ok (.iconst 1, 1) := by decide +kernel
theorem dX9_isRest_29 : decode cX9_isRest 29 = .ok (.goto 4, 3) := by decide +kernel
theorem dX9_isRest_32 : decode cX9_isRest 32 = .ok (.iconst 0, 1) := by decide +kernel
theorem dX9_isRest_33 : decode cX9_isRest 33 = .ok (.istore_n 3, 1) := by decide +kernel
theorem dX9_isRest_34 : decode cX9_isRest 34 = .ok (.iload_n 3, 1) := by decide +kernel
theorem dX9_isRest_35 : decode cX9_isRest 35 = .ok (.ifCond .eq 24, 3) := by decide +kernel
theorem dX9_isRest_38 : decode cX9_isRest 38 = .ok (.aload_n 0, 1) := by decide +kernel
theorem dX9_isRest_39 : decode cX9_isRest 39 = .ok (.iload_n 2, 1) := by decide +kernel
theorem dX9_isRest_40 : decode cX9_isRest 40 = .ok (.iload_n 1, 1) := by decide +kernel
theorem dX9_isRest_41 : decode cX9_isRest 41 = .ok (.iconst 1, 1) := by decide +kernel
theorem dX9_isRest_42 : decode cX9_isRest 42 = .ok (.iload_n 2, 1) := by decide +kernel
theorem dX9_isRest_43 : decode cX9_isRest 43 = .ok (.ishl, 1) := by decide +kernel
theorem dX9_isRest_44 : decode cX9_isRest 44 = .ok (.ixor, 1) := by decide +kernel
theorem dX9_isRest_45 : decode cX9_isRest 45 = .ok (.invokevirtual 32, 3) := by decide +kernel
theorem dX9_isRest_48 : decode cX9_isRest 48 = .ok (.aload_n 0, 1) := by decide +kernel
theorem dX9_isRest_49 : decode cX9_isRest 49 = .ok (.iload_n 2, 1) := by decide +kernel
theorem dX9_isRest_50 : decode cX9_isRest 50 = .ok (.iload_n 1, 1) := by decide +kernel
theorem dX9_isRest_51 : decode cX9_isRest 51 = .ok (.invokevirtual 32, 3) := by decide +kernel
theorem dX9_isRest_54 : decode cX9_isRest 54 = .ok (.if_icmp .ge 5, 3) := by decide +kernel
theorem dX9_isRest_57 : decode cX9_isRest 57 = .ok (.iconst 0, 1) := by decide +kernel
theorem dX9_isRest_58 : decode cX9_isRest 58 = .ok (.ireturn, 1) := by decide +kernel
theorem dX9_isRest_59 : decode cX9_isRest 59 = .ok (.iinc 2 1, 3) := by decide +kernel
theorem dX9_isRest_62 : decode cX9_isRest 62 = .ok (.goto (-50), 3) := by decide +kernel
theorem dX9_isRest_65 : decode cX9_isRest 65 = .ok (.iconst 1, 1) := by decide +kernel
theorem dX9_isRest_66 : decode cX9_isRest 66 = .ok (.ireturn, 1) := by decide +kernel
theorem dX9_sum_0 : decode cX9_sum 0 = .ok (.iconst 0, 1) := by decide +kernel
theorem dX9_sum_1 : decode cX9_sum 1 = .ok (.istore_n 2, 1) := by decide +kernel
theorem dX9_sum_2 : decode cX9_sum 2 = .ok (.iconst 0, 1) := by decide +kernel
theorem dX9_sum_3 : decode cX9_sum 3 = .ok (.istore_n 3, 1) := by decide +kernel
theorem dX9_sum_4 : decode cX9_sum 4 = .ok (.iload_n 3, 1) := by decide +kernel
theorem dX9_sum_5 : decode cX9_sum 5 = .ok (.iconst 5, 1) := by decide +kernel
theorem dX9_sum_6 : decode cX9_sum 6 = .ok (.if_icmp .ge 33, 3) := by decide +kernel
theorem dX9_sum_9 : decode cX9_sum 9 = .ok (.iload_n 2, 1) := by decide +kernel
theorem dX9_sum_10 : decode cX9_sum 10 = .ok (.aload_n 0, 1) := by decide +kernel
theorem dX9_sum_11 : decode cX9_sum 11 = .ok (.getfield 9, 3) := by decide +kernel
theorem dX9_sum_14 : decode cX9_sum 14 = .ok (.iload_n 3, 1) := by decide +kernel
theorem dX9_sum_15 : decode cX9_sum 15 = .ok (.ishr, 1) := by decide +kernel
theorem dX9_sum_16 : decode cX9_sum 16 = .ok (.iconst 1, 1) := by decide +kernel
theorem dX9_sum_17 : decode cX9_sum 17 = .ok (.iand, 1) := by decide +kernel
theorem dX9_sum_18 : decode cX9_sum 18 = .ok (.ifCond .eq 12, 3) := by decide +kernel
theorem dX9_sum_21 : decode cX9_sum 21 = .ok (.aload_n 0, 1) := by decide +kernel
theorem dX9_sum_22 : decode cX9_sum 22 = .ok (.iload_n 3, 1) := by decide +kernel
theorem dX9_sum_23 : decode cX9_sum 23 = .ok (.iload_n 1, 1) := by decide +kernel
theorem dX9_sum_24 : decode cX9_sum 24 = .ok (.invokevirtual 32, 3) := by decide +kernel
theorem dX9_sum_27 : decode cX9_sum 27 = .ok (.goto 4, 3) := by decide +kernel
theorem dX9_sum_30 : decode cX9_sum 30 = .ok (.iconst 0, 1) := by decide +kernel
theorem dX9_sum_31 : decode cX9_sum 31 = .ok (.iadd, 1) := by decide +kernel
theorem dX9_sum_32 : decode cX9_sum 32 = .ok (.istore_n 2, 1) := by decide +kernel
theorem dX9_sum_33 : decode cX9_sum 33 = .ok (.iinc 3 1, 3) := by decide +kernel
theorem dX9_sum_36 : decode cX9_sum 36 = .ok (.goto (-32), 3) := by decide +kernel
theorem dX9_sum_39 : decode cX9_sum 39 = .ok (.iload_n 2, 1) := by decide +kernel
theorem dX9_sum_40 : decode cX9_sum 40 = .ok (.ireturn, 1) := by decide +kernel
theorem dX9_least_0 : decode cX9_least 0 = .ok (.iconst 0, 1) := by decide +kernel
theorem dX9_least_1 : decode cX9_least 1 = .ok (.istore_n 1, 1) := by decide +kernel
theorem dX9_least_2 : decode cX9_least 2 = .ok (.aload_n 0, 1) := by decide +kernel
theorem dX9_least_3 : decode cX9_least 3 = .ok (.iconst 0, 1) := by decide +kernel
theorem dX9_least_4 : decode cX9_least 4 = .ok (.invokevirtual 36, 3) := by decide +kernel
theorem dX9_least_7 : decode cX9_least 7 = .ok (.istore_n 2, 1) := by decide +kernel
theorem dX9_least_8 : decode cX9_least 8 = .ok (.iconst 1, 1) := by decide +kernel
theorem dX9_least_9 : decode cX9_least 9 = .ok (.istore_n 3, 1) := by decide +kernel
theorem dX9_least_10 : decode cX9_least 10 = .ok (.iload_n 3, 1) := by decide +kernel
theorem dX9_least_11 : decode cX9_least 11 = .ok (.bipush 32, 2) := by decide +kernel
theorem dX9_least_13 : decode cX9_least 13 = .ok (.if_icmp .ge 34, 3) := by decide +kernel
theorem dX9_least_16 : decode cX9_least 16 = .ok (.aload_n 0, 1) := by decide +kernel
theorem dX9_least_17 : decode cX9_least 17 = .ok (.iload_n 3, 1) := by decide +kernel
theorem dX9_least_18 : decode cX9_least 18 = .ok (.invokevirtual 28, 3) := by decide +kernel
theorem dX9_least_21 : decode cX9_least 21 = .ok (.ifCond .eq 20, 3) := by decide +kernel
theorem dX9_least_24 : decode cX9_least 24 = .ok (.aload_n 0, 1) := by decide +kernel
theorem dX9_least_25 : decode cX9_least 25 = .ok (.iload_n 3, 1) := by decide +kernel
theorem dX9_least_26 : decode cX9_least 26 = .ok (.invokevirtual 36, 3) := by decide +kernel
theorem dX9_least_29 : decode cX9_least 29 = .ok (.iload_n 2, 1) := by decide +kernel
theorem dX9_least_30 : decode cX9_least 30 = .ok (.if_icmp .ge 11, 3) := by decide +kernel
theorem dX9_least_33 : decode cX9_least 33 = .ok (.iload_n 3, 1) := by decide +kernel
theorem dX9_least_34 : decode cX9_least 34 = .ok (.istore_n 1, 1) := by decide +kernel
theorem dX9_least_35 : decode cX9_least 35 = .ok (.aload_n 0, 1) := by decide +kernel
theorem dX9_least_36 : decode cX9_least 36 = .ok (.iload_n 3, 1) := by decide +kernel
theorem dX9_least_37 : decode cX9_least 37 = .ok (.invokevirtual 36, 3) := by decide +kernel
theorem dX9_least_40 : decode cX9_least 40 = .ok (.istore_n 2, 1) := by decide +kernel
theorem dX9_least_41 : decode cX9_least 41 = .ok (.iinc 3 1, 3) := by decide +kernel
theorem dX9_least_44 : decode cX9_least 44 = .ok (.goto (-34), 3) := by decide +kernel
theorem dX9_least_47 : decode cX9_least 47 = .ok (.iload_n 1, 1) := by decide +kernel
theorem dX9_least_48 : decode cX9_least 48 = .ok (.ireturn, 1) := by decide +kernel
theorem dX10_init_0 : decode cX10_init 0 = .ok (.aload_n 0, 1) := by decide +kernel
theorem dX10_init_1 : decode cX10_init 1 = .ok (.invokespecial 3, 3) := by decide +kernel
theorem dX10_init_4 : decode cX10_init 4 = .ok (.aload_n 0, 1) := by decide +kernel
theorem dX10_init_5 : decode cX10_init 5 = .ok (.iconst 0, 1) := by decide +kernel
theorem dX10_init_6 : decode cX10_init 6 = .ok (.putfield 9, 3) := by decide +kernel
theorem dX10_init_9 : decode cX10_init 9 = .ok (.aload_n 0, 1) := by decide +kernel
theorem dX10_init_10 : decode cX10_init 10 = .ok (.iconst 0, 1) := by decide +kernel
theorem dX10_init_11 : decode cX10_init 11 = .ok (.putfield 15, 3) := by decide +kernel
theorem dX10_init_14 : decode cX10_init 14 = .ok (.aload_n 0, 1) := by decide +kernel
theorem dX10_init_15 : decode cX10_init 15 = .ok (.iconst 0, 1) := by decide +kernel
theorem dX10_init_16 : decode cX10_init 16 = .ok (.putfield 19, 3) := by decide +kernel
theorem dX10_init_19 : decode cX10_init 19 = .ok (.aload_n 0, 1) := by decide +kernel
theorem dX10_init_20 : decode cX10_init 20 = .ok (.iconst 0, 1) := by decide +kernel
theorem dX10_init_21 : decode cX10_init 21 = .ok (.putfield 22, 3) := by decide +kernel
theorem dX10_init_24 : decode cX10_init 24 = .ok (.aload_n 0, 1) := by decide +kernel
theorem dX10_init_25 : decode cX10_init 25 = .ok (.iconst 0, 1) := by decide +kernel
theorem dX10_init_26 : decode cX10_init 26 = .ok (.putfield 25, 3) := by decide +kernel
theorem dX10_init_29 : decode cX10_init 29 = .ok (.aload_n 0, 1) := by decide +kernel
theorem dX10_init_30 : decode cX10_init 30 = .ok (.iconst 0, 1) := by decide +kernel
theorem dX10_init_31 : decode cX10_init 31 = .ok (.putfield 28, 3) := by decide +kernel
theorem dX10_init_34 : decode cX10_init 34 = .ok (.aload_n 0, 1) := by decide +kernel
theorem dX10_init_35 : decode cX10_init 35 = .ok (.iconst 0, 1) := by decide +kernel
theorem dX10_init_36 : decode cX10_init 36 = .ok (.putfield 31, 3) := by decide +kernel
theorem dX10_init_39 : decode cX10_init 39 = .ok (.aload_n 0, 1) := by decide +kernel
theorem dX10_init_40 : decode cX10_init 40 = .ok (.iconst 0, 1) := by decide +kernel
theorem dX10_init_41 : decode cX10_init 41 = .ok (.putfield 34, 3) := by decide +kernel
theorem dX10_init_44 : decode cX10_init 44 = .ok (.aload_n 0, 1) := by decide +kernel
theorem dX10_init_45 : decode cX10_init 45 = .ok (.iconst 0, 1) := by decide +kernel
theorem dX10_init_46 : decode cX10_init 46 = .ok (.putfield 37, 3) := by decide +kernel
theorem dX10_init_49 : decode cX10_init 49 = .ok (.aload_n 0, 1) := by decide +kernel
theorem dX10_init_50 : decode cX10_init 50 = .ok (.iconst 0, 1) := by decide +kernel
theorem dX10_init_51 : decode cX10_init 51 = .ok (.putfield 40, 3) := by decide +kernel
theorem dX10_init_54 : decode cX10_init 54 = .ok (.aload_n 0, 1) := by decide +kernel
theorem dX10_init_55 : decode cX10_init 55 = .ok (.iconst 0, 1) := by decide +kernel
theorem dX10_init_56 : decode cX10_init 56 = .ok (.putfield 43, 3) := by decide +kernel
theorem dX10_init_59 : decode cX10_init 59 = .ok (.aload_n 0, 1) := by decide +kernel
theorem dX10_init_60 : decode cX10_init 60 = .ok (.iconst 0, 1) := by decide +kernel
theorem dX10_init_61 : decode cX10_init 61 = .ok (.putfield 46, 3) := by decide +kernel
theorem dX10_init_64 : decode cX10_init 64 = .ok (.aload_n 0, 1) := by decide +kernel
theorem dX10_init_65 : decode cX10_init 65 = .ok (.iconst 0, 1) := by decide +kernel
theorem dX10_init_66 : decode cX10_init 66 = .ok (.putfield 49, 3) := by decide +kernel
theorem dX10_init_69 : decode cX10_init 69 = .ok (.aload_n 0, 1) := by decide +kernel
theorem dX10_init_70 : decode cX10_init 70 = .ok (.iconst 0, 1) := by decide +kernel
theorem dX10_init_71 : decode cX10_init 71 = .ok (.putfield 52, 3) := by decide +kernel
theorem dX10_init_74 : decode cX10_init 74 = .ok (.aload_n 0, 1) := by decide +kernel
theorem dX10_init_75 : decode cX10_init 75 = .ok (.lconst 0, 1) := by decide +kernel
theorem dX10_init_76 : decode cX10_init 76 = .ok (.putfield 55, 3) := by decide +kernel
theorem dX10_init_79 : decode cX10_init 79 = .ok (.return_, 1) := by decide +kernel
theorem dX10_begin_0 : decode cX10_begin 0 = .ok (.aload_n 0, 1) := by decide +kernel
theorem dX10_begin_1 : decode cX10_begin 1 = .ok (.iconst 1, 1) := by decide +kernel
theorem dX10_begin_2 : decode cX10_begin 2 = .ok (.putfield 9, 3) := by decide +kernel
theorem dX10_begin_5 : decode cX10_begin 5 = .ok (.aload_n 0, 1) := by decide +kernel
theorem dX10_begin_6 : decode cX10_begin 6 = .ok (.iload_n 2, 1) := by decide +kernel
theorem dX10_begin_7 : decode cX10_begin 7 = .ok (.putfield 15, 3) := by decide +kernel
theorem dX10_begin_10 : decode cX10_begin 10 = .ok (.aload_n 0, 1) := by decide +kernel
theorem dX10_begin_11 : decode cX10_begin 11 = .ok (.iload_n 3, 1) := by decide +kernel
theorem dX10_begin_12 : decode cX10_begin 12 = .ok (.putfield 19, 3) := by decide +kernel
theorem dX10_begin_15 : decode cX10_begin 15 = .ok (.aload_n 0, 1) := by decide +kernel
theorem dX10_begin_16 : decode cX10_begin 16 = .ok (.iconst 0, 1) := by decide +kernel
theorem dX10_begin_17 : decode cX10_begin 17 = .ok (.putfield 28, 3) := by decide +kernel
theorem dX10_begin_20 : decode cX10_begin 20 = .ok (.aload_n 0, 1) := by decide +kernel
theorem dX10_begin_21 : decode cX10_begin 21 = .ok (.iconst 0, 1) := by decide +kernel
theorem dX10_begin_22 : decode cX10_begin 22 = .ok (.putfield 43, 3) := by decide +kernel
theorem dX10_begin_25 : decode cX10_begin 25 = .ok (.aload_n 0, 1) := by decide +kernel
theorem dX10_begin_26 : decode cX10_begin 26 = .ok (.iconst 0, 1) := by decide +kernel
theorem dX10_begin_27 : decode cX10_begin 27 = .ok (.putfield 46, 3) := by decide +kernel
theorem dX10_begin_30 : decode cX10_begin 30 = .ok (.aload_n 0, 1) := by decide +kernel
theorem dX10_begin_31 : decode cX10_begin 31 = .ok (.iconst 0, 1) := by decide +kernel
theorem dX10_begin_32 : decode cX10_begin 32 = .ok (.putfield 49, 3) := by decide +kernel
theorem dX10_begin_35 : decode cX10_begin 35 = .ok (.aload_n 0, 1) := by decide +kernel
theorem dX10_begin_36 : decode cX10_begin 36 = .ok (.iconst 0, 1) := by decide +kernel
theorem dX10_begin_37 : decode cX10_begin 37 = .ok (.putfield 52, 3) := by decide +kernel
theorem dX10_begin_40 : decode cX10_begin 40 = .ok (.aload_n 1, 1) := by decide +kernel
theorem dX10_begin_41 : decode cX10_begin 41 = .ok (.iconst 1, 1) := by decide +kernel
theorem dX10_begin_42 : decode cX10_begin 42 = .ok (.aload_n 0, 1) := by decide +kernel
theorem dX10_begin_43 : decode cX10_begin 43 = .ok (.getfield 15, 3) := by decide +kernel
theorem dX10_begin_46 : decode cX10_begin 46 = .ok (.iconst 0, 1) := by decide +kernel
theorem dX10_begin_47 : decode cX10_begin 47 = .ok (.invokevirtual 59, 3) := by decide +kernel
theorem dX10_begin_50 : decode cX10_begin 50 = .ok (.istore 4, 2) := by decide +kernel
theorem dX10_begin_52 : decode cX10_begin 52 = .ok (.aload_n 0, 1) := by decide +kernel
theorem dX10_begin_53 : decode cX10_begin 53 = .ok (.iload 4, 2) := by decide +kernel
theorem dX10_begin_55 : decode cX10_begin 55 = .ok (.iload 4, 2) := by decide +kernel
theorem dX10_begin_57 : decode cX10_begin 57 = .ok (.aload_n 1, 1) := by decide +kernel
theorem dX10_begin_58 : decode cX10_begin 58 = .ok (.iconst 1, 1) := by decide +kernel
theorem dX10_begin_59 : decode cX10_begin 59 = .ok (.aload_n 0, 1) := by decide +kernel
theorem dX10_begin_60 : decode cX10_begin 60 = .ok (.getfield 15, 3) := by decide +kernel
theorem dX10_begin_63 : decode cX10_begin 63 = .ok (.iconst 1, 1) := by decide +kernel
theorem dX10_begin_64 : decode cX10_begin 64 = .ok (.invokevirtual 59, 3) := by decide +kernel
theorem dX10_begin_67 : decode cX10_begin 67 = .ok (.iconst 0, 1) := by decide +kernel
theorem dX10_begin_68 : decode cX10_begin 68 = .ok (.invokevirtual 65, 3) := by decide +kernel
theorem dX10_begin_71 : decode cX10_begin 71 = .ok (.aload_n 0, 1) := by decide +kernel
theorem dX10_begin_72 : decode cX10_begin 72 = .ok (.aload_n 1, 1) := by decide +kernel
theorem dX10_begin_73 : decode cX10_begin 73 = .ok (.aload_n 1, 1) := by decide +kernel
theorem dX10_begin_74 : decode cX10_begin 74 = .ok (.iconst 3, 1) := by decide +kernel
theorem dX10_begin_75 : decode cX10_begin 75 = .ok (.aload_n 0, 1) := by decide +kernel
theorem dX10_begin_76 : decode cX10_begin 76 = .ok (.getfield 19, 3) := by decide +kernel
theorem dX10_begin_79 : decode cX10_begin 79 = .ok (.iconst 0, 1) := by decide +kernel
theorem dX10_begin_80 : decode cX10_begin 80 = .ok (.invokevirtual 59, 3) := by decide +kernel
theorem dX10_begin_83 : decode cX10_begin 83 = .ok (.invokevirtual 69, 3) := by decide +kernel
theorem dX10_begin_86 : decode cX10_begin 86 = .ok (.return_, 1) := by decide +kernel
theorem dX10_stand_0 : decode cX10_stand 0 = .ok (.aload_n 0, 1) := by decide +kernel
theorem dX10_stand_1 : decode cX10_stand 1 = .ok (.iload_n 1, 1) := by decide +kernel
theorem dX10_stand_2 : decode cX10_stand 2 = .ok (.putfield 31, 3) := by decide +kernel
theorem dX10_stand_5 : decode cX10_stand 5 = .ok (.aload_n 0, 1) := by decide +kernel
theorem dX10_stand_6 : decode cX10_stand 6 = .ok (.iload_n 2, 1) := by decide +kernel
theorem dX10_stand_7 : decode cX10_stand 7 = .ok (.putfield 34, 3) := by decide +kernel
theorem dX10_stand_10 : decode cX10_stand 10 = .ok (.aload_n 0, 1) := by decide +kernel
theorem dX10_stand_11 : decode cX10_stand 11 = .ok (.iload_n 3, 1) := by decide +kernel
theorem dX10_stand_12 : decode cX10_stand 12 = .ok (.putfield 37, 3) := by decide +kernel
theorem dX10_stand_15 : decode cX10_stand 15 = .ok (.aload_n 0, 1) := by decide +kernel
theorem dX10_stand_16 : decode cX10_stand 16 = .ok (.iload 4, 2) := by decide +kernel
theorem dX10_stand_18 : decode cX10_stand 18 = .ok (.putfield 25, 3) := by decide +kernel
theorem dX10_stand_21 : decode cX10_stand 21 = .ok (.aload_n 0, 1) := by decide +kernel
theorem dX10_stand_22 : decode cX10_stand 22 = .ok (.iconst 0, 1) := by decide +kernel
theorem dX10_stand_23 : decode cX10_stand 23 = .ok (.putfield 40, 3) := by decide +kernel
theorem dX10_stand_26 : decode cX10_stand 26 = .ok (.return_, 1) := by decide +kernel
theorem dX10_grip_0 : decode cX10_grip 0 = .ok (.aload_n 0, 1) := by decide +kernel
theorem dX10_grip_1 : decode cX10_grip 1 = .ok (.iload_n 2, 1) := by decide +kernel
theorem dX10_grip_2 : decode cX10_grip 2 = .ok (.putfield 22, 3) := by decide +kernel
theorem dX10_grip_5 : decode cX10_grip 5 = .ok (.aload_n 0, 1) := by decide +kernel
theorem dX10_grip_6 : decode cX10_grip 6 = .ok (.aload_n 1, 1) := by decide +kernel
theorem dX10_grip_7 : decode cX10_grip 7 = .ok (.iconst 2, 1) := by decide +kernel
theorem dX10_grip_8 : decode cX10_grip 8 = .ok (.aload_n 0, 1) := by decide +kernel
theorem dX10_grip_9 : decode cX10_grip 9 = .ok (.getfield 22, 3) := by decide +kernel
theorem dX10_grip_12 : decode cX10_grip 12 = .ok (.iconst 0, 1) := by decide +kernel
theorem dX10_grip_13 : decode cX10_grip 13 = .ok (.invokevirtual 59, 3) := by decide +kernel
theorem dX10_grip_16 : decode cX10_grip 16 = .ok (.putfield 25, 3) := by decide +kernel
theorem dX10_grip_19 : decode cX10_grip 19 = .ok (.return_, 1) := by decide +kernel
theorem dX10_take_0 : decode cX10_take 0 = .ok (.aload_n 0, 1) := by decide +kernel
theorem dX10_take_1 : decode cX10_take 1 = .ok (.aload_n 1, 1) := by decide +kernel
theorem dX10_take_2 : decode cX10_take 2 = .ok (.getfield 9, 3) := by decide +kernel
theorem dX10_take_5 : decode cX10_take 5 = .ok (.putfield 9, 3) := by decide +kernel
theorem dX10_take_8 : decode cX10_take 8 = .ok (.aload_n 0, 1) := by decide +kernel
theorem dX10_take_9 : decode cX10_take 9 = .ok (.aload_n 1, 1) := by decide +kernel
theorem dX10_take_10 : decode cX10_take 10 = .ok (.getfield 15, 3) := by decide +kernel
theorem dX10_take_13 : decode cX10_take 13 = .ok (.putfield 15, 3) := by decide +kernel
theorem dX10_take_16 : decode cX10_take 16 = .ok (.aload_n 0, 1) := by decide +kernel
theorem dX10_take_17 : decode cX10_take 17 = .ok (.aload_n 1, 1) := by decide +kernel
theorem dX10_take_18 : decode cX10_take 18 = .ok (.getfield 19, 3) := by decide +kernel
theorem dX10_take_21 : decode cX10_take 21 = .ok (.putfield 19, 3) := by decide +kernel
theorem dX10_take_24 : decode cX10_take 24 = .ok (.aload_n 0, 1) := by decide +kernel
theorem dX10_take_25 : decode cX10_take 25 = .ok (.aload_n 1, 1) := by decide +kernel
theorem dX10_take_26 : decode cX10_take 26 = .ok (.getfield 22, 3) := by decide +kernel
theorem dX10_take_29 : decode cX10_take 29 = .ok (.putfield 22, 3) := by decide +kernel
theorem dX10_take_32 : decode cX10_take 32 = .ok (.aload_n 0, 1) := by decide +kernel
theorem dX10_take_33 : decode cX10_take 33 = .ok (.aload_n 1, 1) := by decide +kernel
theorem dX10_take_34 : decode cX10_take 34 = .ok (.getfield 25, 3) := by decide +kernel
theorem dX10_take_37 : decode cX10_take 37 = .ok (.putfield 25, 3) := by decide +kernel
theorem dX10_take_40 : decode cX10_take 40 = .ok (.aload_n 0, 1) := by decide +kernel
theorem dX10_take_41 : decode cX10_take 41 = .ok (.aload_n 1, 1) := by decide +kernel
theorem dX10_take_42 : decode cX10_take 42 = .ok (.getfield 28, 3) := by decide +kernel
theorem dX10_take_45 : decode cX10_take 45 = .ok (.putfield 28, 3) := by decide +kernel
theorem dX10_take_48 : decode cX10_take 48 = .ok (.aload_n 0, 1) := by decide +kernel
theorem dX10_take_49 : decode cX10_take 49 = .ok (.aload_n 1, 1) := by decide +kernel
theorem dX10_take_50 : decode cX10_take 50 = .ok (.getfield 31, 3) := by decide +kernel
theorem dX10_take_53 : decode cX10_take 53 = .ok (.putfield 31, 3) := by decide +kernel
theorem dX10_take_56 : decode cX10_take 56 = .ok (.aload_n 0, 1) := by decide +kernel
theorem dX10_take_57 : decode cX10_take 57 = .ok (.aload_n 1, 1) := by decide +kernel
theorem dX10_take_58 : decode cX10_take 58 = .ok (.getfield 34, 3) := by decide +kernel
theorem dX10_take_61 : decode cX10_take 61 = .ok (.putfield 34, 3) := by decide +kernel
theorem dX10_take_64 : decode cX10_take 64 = .ok (.aload_n 0, 1) := by decide +kernel
theorem dX10_take_65 : decode cX10_take 65 = .ok (.aload_n 1, 1) := by decide +kernel
theorem dX10_take_66 : decode cX10_take 66 = .ok (.getfield 37, 3) := by decide +kernel
theorem dX10_take_69 : decode cX10_take 69 = .ok (.putfield 37, 3) := by decide +kernel
theorem dX10_take_72 : decode cX10_take 72 = .ok (.aload_n 0, 1) := by decide +kernel
theorem dX10_take_73 : decode cX10_take 73 = .ok (.aload_n 1, 1) := by decide +kernel
theorem dX10_take_74 : decode cX10_take 74 = .ok (.getfield 40, 3) := by decide +kernel
theorem dX10_take_77 : decode cX10_take 77 = .ok (.putfield 40, 3) := by decide +kernel
theorem dX10_take_80 : decode cX10_take 80 = .ok (.aload_n 0, 1) := by decide +kernel
theorem dX10_take_81 : decode cX10_take 81 = .ok (.aload_n 1, 1) := by decide +kernel
theorem dX10_take_82 : decode cX10_take 82 = .ok (.getfield 43, 3) := by decide +kernel
theorem dX10_take_85 : decode cX10_take 85 = .ok (.putfield 43, 3) := by decide +kernel
theorem dX10_take_88 : decode cX10_take 88 = .ok (.aload_n 0, 1) := by decide +kernel
theorem dX10_take_89 : decode cX10_take 89 = .ok (.aload_n 1, 1) := by decide +kernel
theorem dX10_take_90 : decode cX10_take 90 = .ok (.getfield 46, 3) := by decide +kernel
theorem dX10_take_93 : decode cX10_take 93 = .ok (.putfield 46, 3) := by decide +kernel
theorem dX10_take_96 : decode cX10_take 96 = .ok (.aload_n 0, 1) := by decide +kernel
theorem dX10_take_97 : decode cX10_take 97 = .ok (.aload_n 1, 1) := by decide +kernel
theorem dX10_take_98 : decode cX10_take 98 = .ok (.getfield 49, 3) := by decide +kernel
theorem dX10_take_101 : decode cX10_take 101 = .ok (.putfield 49, 3) := by decide +kernel
theorem dX10_take_104 : decode cX10_take 104 = .ok (.aload_n 0, 1) := by decide +kernel
theorem dX10_take_105 : decode cX10_take 105 = .ok (.aload_n 1, 1) := by decide +kernel
theorem dX10_take_106 : decode cX10_take 106 = .ok (.getfield 52, 3) := by decide +kernel
theorem dX10_take_109 : decode cX10_take 109 = .ok (.putfield 52, 3) := by decide +kernel
theorem dX10_take_112 : decode cX10_take 112 = .ok (.aload_n 0, 1) := by decide +kernel
theorem dX10_take_113 : decode cX10_take 113 = .ok (.aload_n 1, 1) := by decide +kernel
theorem dX10_take_114 : decode cX10_take 114 = .ok (.getfield 55, 3) := by decide +kernel
theorem dX10_take_117 : decode cX10_take 117 = .ok (.putfield 55, 3) := by decide +kernel
theorem dX10_take_120 : decode cX10_take 120 = .ok (.return_, 1) := by decide +kernel
theorem dX10_isOut_0 : decode cX10_isOut 0 = .ok (.aload_n 0, 1) := by decide +kernel
theorem dX10_isOut_1 : decode cX10_isOut 1 = .ok (.getfield 37, 3) := by decide +kernel
theorem dX10_isOut_4 : decode cX10_isOut 4 = .ok (.ifCond .gt 7, 3) := by decide +kernel
theorem dX10_isOut_7 : decode cX10_isOut 7 = .ok (.iconst 1, 1) := by decide +kernel
theorem dX10_isOut_8 : decode cX10_isOut 8 = .ok (.goto 4, 3) := by decide +kernel
theorem dX10_isOut_11 : decode cX10_isOut 11 = .ok (.iconst 0, 1) := by decide +kernel
theorem dX10_isOut_12 : decode cX10_isOut 12 = .ok (.ireturn, 1) := by decide +kernel
theorem dX10_isGoing_0 : decode cX10_isGoing 0 = .ok (.aload_n 0, 1) := by decide +kernel
theorem dX10_isGoing_1 : decode cX10_isGoing 1 = .ok (.getfield 9, 3) := by decide +kernel
theorem dX10_isGoing_4 : decode cX10_isGoing 4 = .ok (.ifCond .eq 26, 3) := by decide +kernel
theorem dX10_isGoing_7 : decode cX10_isGoing 7 = .ok (.aload_n 0, 1) := by decide +kernel
theorem dX10_isGoing_8 : decode cX10_isGoing 8 = .ok (.getfield 37, 3) := by decide +kernel
theorem dX10_isGoing_11 : decode cX10_isGoing 11 = .ok (.ifCond .le 19, 3) := by decide +kernel
theorem dX10_isGoing_14 : decode cX10_isGoing 14 = .ok (.aload_n 0, 1) := by decide +kernel
theorem dX10_isGoing_15 : decode cX10_isGoing 15 = .ok (.getfield 49, 3) := by decide +kernel
theorem dX10_isGoing_18 : decode cX10_isGoing 18 = .ok (.aload_n 1, 1) := by decide +kernel
theorem dX10_isGoing_19 : decode cX10_isGoing 19 = .ok (.iconst 0, 1) := by decide +kernel
theorem dX10_isGoing_20 : decode cX10_isGoing 20 = .ok (.invokevirtual 73, 3) := by decide +kernel
theorem dX10_isGoing_23 : decode cX10_isGoing 23 = .ok (.if_icmp .ge 7, 3) := by decide +kernel
theorem dX10_isGoing_26 : decode cX10_isGoing 26 = .ok (.iconst 1, 1) := by decide +kernel
theorem dX10_isGoing_27 : decode cX10_isGoing 27 = .ok (.goto 4, 3) := by decide +kernel
theorem dX10_isGoing_30 : decode cX10_isGoing 30 = .ok (.iconst 0, 1) := by decide +kernel
theorem dX10_isGoing_31 : decode cX10_isGoing 31 = .ok (.ireturn, 1) := by decide +kernel
theorem dX10_nextPace_0 : decode cX10_nextPace 0 = .ok (.aload_n 0, 1) := by decide +kernel
theorem dX10_nextPace_1 : decode cX10_nextPace 1 = .ok (.getfield 34, 3) := by decide +kernel
theorem dX10_nextPace_4 : decode cX10_nextPace 4 = .ok (.ifCond .ne 5, 3) := by decide +kernel
theorem dX10_nextPace_7 : decode cX10_nextPace 7 = .ok (.iconst 1, 1) := by decide +kernel
theorem dX10_nextPace_8 : decode cX10_nextPace 8 = .ok (.ireturn, 1) := by decide +kernel
theorem dX10_nextPace_9 : decode cX10_nextPace 9 = .ok (.aload_n 0, 1) := by decide +kernel
theorem dX10_nextPace_10 : decode cX10_nextPace 10 = .ok (.getfield 28, 3) := by decide +kernel
theorem dX10_nextPace_13 : decode cX10_nextPace 13 = .ok (.ifCond .le 10, 3) := by decide +kernel
theorem dX10_nextPace_16 : decode cX10_nextPace 16 = .ok (.aload_n 0, 1) := by decide +kernel
theorem dX10_nextPace_17 : decode cX10_nextPace 17 = .ok (.getfield 28, 3) := by decide +kernel
theorem dX10_nextPace_20 : decode cX10_nextPace 20 = .ok (.goto 18, 3) := by decide +kernel
theorem dX10_nextPace_23 : decode cX10_nextPace 23 = .ok (.aload_n 1, 1) := by decide +kernel
theorem dX10_nextPace_24 : decode cX10_nextPace 24 = .ok (.iconst 3, 1) := by decide +kernel
theorem dX10_nextPace_25 : decode cX10_nextPace 25 = .ok (.aload_n 0, 1) := by decide +kernel
theorem dX10_nextPace_26 : decode cX10_nextPace 26 = .ok (.getfield 19, 3) := by decide +kernel
theorem dX10_nextPace_29 : decode cX10_nextPace 29 = .ok (.iconst 1, 1) := by decide +kernel
theorem dX10_nextPace_30 : decode cX10_nextPace 30 = .ok (.aload_n 0, 1) := by decide +kernel
theorem dX10_nextPace_31 : decode cX10_nextPace 31 = .ok (.getfield 49, 3) := by decide +kernel
theorem dX10_nextPace_34 : decode cX10_nextPace 34 = .ok (.iadd, 1) := by decide +kernel
theorem dX10_nextPace_35 : decode cX10_nextPace 35 = .ok (.invokevirtual 59, 3) := by decide +kernel
theorem dX10_nextPace_38 : decode cX10_nextPace 38 = .ok (.ireturn, 1) := by decide +kernel
theorem dX10_step_0 : decode cX10_step 0 = .ok (.aload_n 0, 1) := by decide +kernel
theorem dX10_step_1 : decode cX10_step 1 = .ok (.getfield 49, 3) := by decide +kernel
theorem dX10_step_4 : decode cX10_step 4 = .ok (.ifCond .lt 12, 3) := by decide +kernel
theorem dX10_step_7 : decode cX10_step 7 = .ok (.aload_n 0, 1) := by decide +kernel
theorem dX10_step_8 : decode cX10_step 8 = .ok (.getfield 49, 3) := by decide +kernel
theorem dX10_step_11 : decode cX10_step 11 = .ok (.bipush 6, 2) := by decide +kernel
theorem dX10_step_13 : decode cX10_step 13 = .ok (.if_icmp .lt 4, 3) := by decide +kernel
theorem dX10_step_16 : decode cX10_step 16 = .ok (.return_, 1) := by decide +kernel
theorem dX10_step_17 : decode cX10_step 17 = .ok (.aload_n 0, 1) := by decide +kernel
theorem dX10_step_18 : decode cX10_step 18 = .ok (.aload_n 1, 1) := by decide +kernel
theorem dX10_step_19 : decode cX10_step 19 = .ok (.aload_n 0, 1) := by decide +kernel
theorem dX10_step_20 : decode cX10_step 20 = .ok (.getfield 49, 3) := by decide +kernel
theorem dX10_step_23 : decode cX10_step 23 = .ok (.aload_n 0, 1) := by decide +kernel
theorem dX10_step_24 : decode cX10_step 24 = .ok (.aload_n 1, 1) := by decide +kernel
theorem dX10_step_25 : decode cX10_step 25 = .ok (.getfield 77, 3) := by decide +kernel
theorem dX10_step_28 : decode cX10_step 28 = .ok (.invokevirtual 83, 3) := by decide +kernel
theorem dX10_step_31 : decode cX10_step 31 = .ok (.iconst 1, 1) := by decide +kernel
theorem dX10_step_32 : decode cX10_step 32 = .ok (.invokevirtual 87, 3) := by decide +kernel
theorem dX10_step_35 : decode cX10_step 35 = .ok (.iload_n 2, 1) := by decide +kernel
theorem dX10_step_36 : decode cX10_step 36 = .ok (.ifCond .eq 20, 3) := by decide +kernel
theorem dX10_step_39 : decode cX10_step 39 = .ok (.aload_n 0, 1) := by decide +kernel
theorem dX10_step_40 : decode cX10_step 40 = .ok (.aload_n 1, 1) := by decide +kernel
theorem dX10_step_41 : decode cX10_step 41 = .ok (.getfield 77, 3) := by decide +kernel
theorem dX10_step_44 : decode cX10_step 44 = .ok (.aload_n 1, 1) := by decide +kernel
theorem dX10_step_45 : decode cX10_step 45 = .ok (.getfield 91, 3) := by decide +kernel
theorem dX10_step_48 : decode cX10_step 48 = .ok (.aload_n 0, 1) := by decide +kernel
theorem dX10_step_49 : decode cX10_step 49 = .ok (.getfield 49, 3) := by decide +kernel
theorem dX10_step_52 : decode cX10_step 52 = .ok (.iaload, 1) := by decide +kernel
theorem dX10_step_53 : decode cX10_step 53 = .ok (.invokevirtual 95, 3) := by decide +kernel
theorem dX10_step_56 : decode cX10_step 56 = .ok (.aload_n 0, 1) := by decide +kernel
theorem dX10_step_57 : decode cX10_step 57 = .ok (.dup, 1) := by decide +kernel
theorem dX10_step_58 : decode cX10_step 58 = .ok (.getfield 43, 3) := by decide +kernel
theorem dX10_step_61 : decode cX10_step 61 = .ok (.iconst 1, 1) := by decide +kernel
theorem dX10_step_62 : decode cX10_step 62 = .ok (.iadd, 1) := by decide +kernel
theorem dX10_step_63 : decode cX10_step 63 = .ok (.putfield 43, 3) := by decide +kernel
theorem dX10_step_66 : decode cX10_step 66 = .ok (.aload_n 0, 1) := by decide +kernel
theorem dX10_step_67 : decode cX10_step 67 = .ok (.dup, 1) := by decide +kernel
theorem dX10_step_68 : decode cX10_step 68 = .ok (.getfield 52, 3) := by decide +kernel
theorem dX10_step_71 : decode cX10_step 71 = .ok (.iconst 1, 1) := by decide +kernel
theorem dX10_step_72 : decode cX10_step 72 = .ok (.iadd, 1) := by decide +kernel
theorem dX10_step_73 : decode cX10_step 73 = .ok (.putfield 52, 3) := by decide +kernel
theorem dX10_step_76 : decode cX10_step 76 = .ok (.aload_n 0, 1) := by decide +kernel
theorem dX10_step_77 : decode cX10_step 77 = .ok (.getfield 52, 3) := by decide +kernel
theorem dX10_step_80 : decode cX10_step 80 = .ok (.aload_n 1, 1) := by decide +kernel
theorem dX10_step_81 : decode cX10_step 81 = .ok (.getfield 98, 3) := by decide +kernel
theorem dX10_step_84 : decode cX10_step 84 = .ok (.aload_n 0, 1) := by decide +kernel
theorem dX10_step_85 : decode cX10_step 85 = .ok (.getfield 49, 3) := by decide +kernel
theorem dX10_step_88 : decode cX10_step 88 = .ok (.iaload, 1) := by decide +kernel
theorem dX10_step_89 : decode cX10_step 89 = .ok (.if_icmp .lt 18, 3) := by decide +kernel
theorem dX10_step_92 : decode cX10_step 92 = .ok (.aload_n 0, 1) := by decide +kernel
theorem dX10_step_93 : decode cX10_step 93 = .ok (.iconst 0, 1) := by decide +kernel
theorem dX10_step_94 : decode cX10_step 94 = .ok (.putfield 52, 3) := by decide +kernel
theorem dX10_step_97 : decode cX10_step 97 = .ok (.aload_n 0, 1) := by decide +kernel
theorem dX10_step_98 : decode cX10_step 98 = .ok (.dup, 1) := by decide +kernel
theorem dX10_step_99 : decode cX10_step 99 = .ok (.getfield 49, 3) := by decide +kernel
theorem dX10_step_102 : decode cX10_step 102 = .ok (.iconst 1, 1) := by decide +kernel
theorem dX10_step_103 : decode cX10_step 103 = .ok (.iadd, 1) := by decide +kernel
theorem dX10_step_104 : decode cX10_step 104 = .ok (.putfield 49, 3) := by decide +kernel
theorem dX10_step_107 : decode cX10_step 107 = .ok (.return_, 1) := by decide +kernel
theorem dX10_slip_0 : decode cX10_slip 0 = .ok (.aload_n 0, 1) := by decide +kernel
theorem dX10_slip_1 : decode cX10_slip 1 = .ok (.aload_n 0, 1) := by decide +kernel
theorem dX10_slip_2 : decode cX10_slip 2 = .ok (.getfield 55, 3) := by decide +kernel
theorem dX10_slip_5 : decode cX10_slip 5 = .ok (.ldc2_w 100, 3) := by decide +kernel
theorem dX10_slip_8 : decode cX10_slip 8 = .ok (.lmul, 1) := by decide +kernel
theorem dX10_slip_9 : decode cX10_slip 9 = .ok (.ldc2_w 102, 3) := by decide +kernel
theorem dX10_slip_12 : decode cX10_slip 12 = .ok (.ladd, 1) := by decide +kernel
theorem dX10_slip_13 : decode cX10_slip 13 = .ok (.ldc2_w 104, 3) := by decide +kernel
theorem dX10_slip_16 : decode cX10_slip 16 = .ok (.land, 1) := by decide +kernel
theorem dX10_slip_17 : decode cX10_slip 17 = .ok (.putfield 55, 3) := by decide +kernel
theorem dX10_slip_20 : decode cX10_slip 20 = .ok (.aload_n 0, 1) := by decide +kernel
theorem dX10_slip_21 : decode cX10_slip 21 = .ok (.getfield 55, 3) := by decide +kernel
theorem dX10_slip_24 : decode cX10_slip 24 = .ok (.bipush 16, 2) := by decide +kernel
theorem dX10_slip_26 : decode cX10_slip 26 = .ok (.lshr, 1) := by decide +kernel
theorem dX10_slip_27 : decode cX10_slip 27 = .ok (.ldc2_w 106, 3) := by decide +kernel
theorem dX10_slip_30 : decode cX10_slip 30 = .ok (.lrem, 1) := by decide +kernel
theorem dX10_slip_31 : decode cX10_slip 31 = .ok (.lstore_n 3, 1) := by decide +kernel
theorem dX10_slip_32 : decode cX10_slip 32 = .ok (.lload_n 3, 1) := by decide +kernel
theorem dX10_slip_33 : decode cX10_slip 33 = .ok (.aload_n 1, 1) := by decide +kernel
theorem dX10_slip_34 : decode cX10_slip 34 = .ok (.iconst 2, 1) := by decide +kernel
theorem dX10_slip_35 : decode cX10_slip 35 = .ok (.aload_n 0, 1) := by decide +kernel
theorem dX10_slip_36 : decode cX10_slip 36 = .ok (.getfield 22, 3) := by decide +kernel
theorem dX10_slip_39 : decode cX10_slip 39 = .ok (.iconst 1, 1) := by decide +kernel
theorem dX10_slip_40 : decode cX10_slip 40 = .ok (.invokevirtual 59, 3) := by decide +kernel
theorem dX10_slip_43 : decode cX10_slip 43 = .ok (.bipush 10, 2) := by decide +kernel
theorem dX10_slip_45 : decode cX10_slip 45 = .ok (.iload_n 2, 1) := by decide +kernel
theorem dX10_slip_46 : decode cX10_slip 46 = .ok (.imul, 1) := by decide +kernel
theorem dX10_slip_47 : decode cX10_slip 47 = .ok (.iadd, 1) := by decide +kernel
theorem dX10_slip_48 : decode cX10_slip 48 = .ok (.i2l, 1) := by decide +kernel
theorem dX10_slip_49 : decode cX10_slip 49 = .ok (.lcmp, 1) := by decide +kernel
theorem dX10_slip_50 : decode cX10_slip 50 = .ok (.ifCond .ge 32, 3) := by decide +kernel
theorem dX10_slip_53 : decode cX10_slip 53 = .ok (.aload_n 0, 1) := by decide +kernel
theorem dX10_slip_54 : decode cX10_slip 54 = .ok (.dup, 1) := by decide +kernel
theorem dX10_slip_55 : decode cX10_slip 55 = .ok (.getfield 46, 3) := by decide +kernel
theorem dX10_slip_58 : decode cX10_slip 58 = .ok (.iconst 1, 1) := by decide +kernel
theorem dX10_slip_59 : decode cX10_slip 59 = .ok (.iadd, 1) := by decide +kernel
theorem dX10_slip_60 : decode cX10_slip 60 = .ok (.putfield 46, 3) := by decide +kernel
theorem dX10_slip_63 : decode cX10_slip 63 = .ok (.aload_n 0, 1) := by decide +kernel
theorem dX10_slip_64 : decode cX10_slip 64 = .ok (.dup, 1) := by decide +kernel
theorem dX10_slip_65 : decode cX10_slip 65 = .ok (.getfield 40, 3) := by decide +kernel
theorem dX10_slip_68 : decode cX10_slip 68 = .ok (.aload_n 1, 1) := by decide +kernel
theorem dX10_slip_69 : decode cX10_slip 69 = .ok (.iconst 2, 1) := by decide +kernel
theorem dX10_slip_70 : decode cX10_slip 70 = .ok (.aload_n 0, 1) := by decide +kernel
theorem dX10_slip_71 : decode cX10_slip 71 = .ok (.getfield 22, 3) := by decide +kernel
theorem dX10_slip_74 : decode cX10_slip 74 = .ok (.iconst 2, 1) := by decide +kernel
theorem dX10_slip_75 : decode cX10_slip 75 = .ok (.invokevirtual 59, 3) := by decide +kernel
theorem dX10_slip_78 : decode cX10_slip 78 = .ok (.iadd, 1) := by decide +kernel
theorem dX10_slip_79 : decode cX10_slip 79 = .ok (.putfield 40, 3) := by decide +kernel
theorem dX10_slip_82 : decode cX10_slip 82 = .ok (.return_, 1) := by decide +kernel
theorem dX10_tread_0 : decode cX10_tread 0 = .ok (.iload_n 2, 1) := by decide +kernel
theorem dX10_tread_1 : decode cX10_tread 1 = .ok (.ifCond .lt 9, 3) := by decide +kernel
theorem dX10_tread_4 : decode cX10_tread 4 = .ok (.iload_n 2, 1) := by decide +kernel
theorem dX10_tread_5 : decode cX10_tread 5 = .ok (.bipush 6, 2) := by decide +kernel
theorem dX10_tread_7 : decode cX10_tread 7 = .ok (.if_icmp .lt 4, 3) := by decide +kernel
theorem dX10_tread_10 : decode cX10_tread 10 = .ok (.return_, 1) := by decide +kernel
theorem dX10_tread_11 : decode cX10_tread 11 = .ok (.iconst 0, 1) := by decide +kernel
theorem dX10_tread_12 : decode cX10_tread 12 = .ok (.istore 5, 2) := by decide +kernel
theorem dX10_tread_14 : decode cX10_tread 14 = .ok (.iload 5, 2) := by decide +kernel
theorem dX10_tread_16 : decode cX10_tread 16 = .ok (.iload 4, 2) := by decide +kernel
theorem dX10_tread_18 : decode cX10_tread 18 = .ok (.if_icmp .ge 145, 3) := by decide +kernel
theorem dX10_tread_21 : decode cX10_tread 21 = .ok (.aload_n 0, 1) := by decide +kernel
theorem dX10_tread_22 : decode cX10_tread 22 = .ok (.getfield 37, 3) := by decide +kernel
theorem dX10_tread_25 : decode cX10_tread 25 = .ok (.ifCond .le 138, 3) := by decide +kernel
theorem dX10_tread_28 : decode cX10_tread 28 = .ok (.aload_n 1, 1) := by decide +kernel
theorem dX10_tread_29 : decode cX10_tread 29 = .ok (.iload_n 2, 1) := by decide +kernel
theorem dX10_tread_30 : decode cX10_tread 30 = .ok (.aload_n 0, 1) := by decide +kernel
theorem dX10_tread_31 : decode cX10_tread 31 = .ok (.getfield 34, 3) := by decide +kernel
theorem dX10_tread_34 : decode cX10_tread 34 = .ok (.ifCond .ne 7, 3) := by decide +kernel
theorem dX10_tread_37 : decode cX10_tread 37 = .ok (.iconst 1, 1) := by decide +kernel
theorem dX10_tread_38 : decode cX10_tread 38 = .ok (.goto 4, 3) := by decide +kernel
theorem dX10_tread_41 : decode cX10_tread 41 = .ok (.iload_n 3, 1) := by decide +kernel
theorem dX10_tread_42 : decode cX10_tread 42 = .ok (.aload_n 0, 1) := by decide +kernel
theorem dX10_tread_43 : decode cX10_tread 43 = .ok (.getfield 34, 3) := by decide +kernel
theorem dX10_tread_46 : decode cX10_tread 46 = .ok (.aload_n 0, 1) := by decide +kernel
theorem dX10_tread_47 : decode cX10_tread 47 = .ok (.getfield 37, 3) := by decide +kernel
theorem dX10_tread_50 : decode cX10_tread 50 = .ok (.invokevirtual 108, 3) := by decide +kernel
theorem dX10_tread_53 : decode cX10_tread 53 = .ok (.istore 6, 2) := by decide +kernel
theorem dX10_tread_55 : decode cX10_tread 55 = .ok (.aload_n 0, 1) := by decide +kernel
theorem dX10_tread_56 : decode cX10_tread 56 = .ok (.dup, 1) := by decide +kernel
theorem dX10_tread_57 : decode cX10_tread 57 = .ok (.getfield 40, 3) := by decide +kernel
theorem dX10_tread_60 : decode cX10_tread 60 = .ok (.iload 6, 2) := by decide +kernel
theorem dX10_tread_62 : decode cX10_tread 62 = .ok (.bipush 127, 2) := by decide +kernel
theorem dX10_tread_64 : decode cX10_tread 64 = .ok (.iand, 1) := by decide +kernel
theorem dX10_tread_65 : decode cX10_tread 65 = .ok (.iadd, 1) := by decide +kernel
theorem dX10_tread_66 : decode cX10_tread 66 = .ok (.putfield 40, 3) := by decide +kernel
theorem dX10_tread_69 : decode cX10_tread 69 = .ok (.aload_n 0, 1) := by decide +kernel
theorem dX10_tread_70 : decode cX10_tread 70 = .ok (.getfield 34, 3) := by decide +kernel
theorem dX10_tread_73 : decode cX10_tread 73 = .ok (.iload 6, 2) := by decide +kernel
theorem dX10_tread_75 : decode cX10_tread 75 = .ok (.bipush 7, 2) := by decide +kernel
theorem dX10_tread_77 : decode cX10_tread 77 = .ok (.ishr, 1) := by decide +kernel
theorem dX10_tread_78 : decode cX10_tread 78 = .ok (.bipush 63, 2) := by decide +kernel
theorem dX10_tread_80 : decode cX10_tread 80 = .ok (.iand, 1) := by decide +kernel
theorem dX10_tread_81 : decode cX10_tread 81 = .ok (.bipush 20, 2) := by decide +kernel
theorem dX10_tread_83 : decode cX10_tread 83 = .ok (.isub, 1) := by decide +kernel
theorem dX10_tread_84 : decode cX10_tread 84 = .ok (.isub, 1) := by decide +kernel
theorem dX10_tread_85 : decode cX10_tread 85 = .ok (.aload_n 0, 1) := by decide +kernel
theorem dX10_tread_86 : decode cX10_tread 86 = .ok (.getfield 25, 3) := by decide +kernel
theorem dX10_tread_89 : decode cX10_tread 89 = .ok (.isub, 1) := by decide +kernel
theorem dX10_tread_90 : decode cX10_tread 90 = .ok (.istore 7, 2) := by decide +kernel
theorem dX10_tread_92 : decode cX10_tread 92 = .ok (.aload_n 0, 1) := by decide +kernel
theorem dX10_tread_93 : decode cX10_tread 93 = .ok (.iload 7, 2) := by decide +kernel
theorem dX10_tread_95 : decode cX10_tread 95 = .ok (.ifCond .ge 7, 3) := by decide +kernel
theorem dX10_tread_98 : decode cX10_tread 98 = .ok (.iconst 0, 1) := by decide +kernel
theorem dX10_tread_99 : decode cX10_tread 99 = .ok (.goto 21, 3) := by decide +kernel
theorem dX10_tread_102 : decode cX10_tread 102 = .ok (.iload 7, 2) := by decide +kernel
theorem dX10_tread_104 : decode cX10_tread 104 = .ok (.aload_n 0, 1) := by decide +kernel
theorem dX10_tread_105 : decode cX10_tread 105 = .ok (.getfield 31, 3) := by decide +kernel
theorem dX10_tread_108 : decode cX10_tread 108 = .ok (.if_icmp .le 10, 3) := by decide +kernel
theorem dX10_tread_111 : decode cX10_tread 111 = .ok (.aload_n 0, 1) := by decide +kernel
theorem dX10_tread_112 : decode cX10_tread 112 = .ok (.getfield 31, 3) := by decide +kernel
theorem dX10_tread_115 : decode cX10_tread 115 = .ok (.goto 5, 3) := by decide +kernel
theorem dX10_tread_118 : decode cX10_tread 118 = .ok (.iload 7, 2) := by decide +kernel
theorem dX10_tread_120 : decode cX10_tread 120 = .ok (.putfield 34, 3) := by decide +kernel
theorem dX10_tread_123 : decode cX10_tread 123 = .ok (.iload 6, 2) := by decide +kernel
theorem dX10_tread_125 : decode cX10_tread 125 = .ok (.bipush 13, 2) := by decide +kernel
theorem dX10_tread_127 : decode cX10_tread 127 = .ok (.ishr, 1) := by decide +kernel
theorem dX10_tread_128 : decode cX10_tread 128 = .ok (.bipush 31, 2) := by decide +kernel
theorem dX10_tread_130 : decode cX10_tread 130 = .ok (.iand, 1) := by decide +kernel
theorem dX10_tread_131 : decode cX10_tread 131 = .ok (.istore 8, 2) := by decide +kernel
theorem dX10_tread_133 : decode cX10_tread 133 = .ok (.aload_n 0, 1) := by decide +kernel
theorem dX10_tread_134 : decode cX10_tread 134 = .ok (.iload 8, 2) := by decide +kernel
theorem dX10_tread_136 : decode cX10_tread 136 = .ok (.aload_n 0, 1) := by decide +kernel
theorem dX10_tread_137 : decode cX10_tread 137 = .ok (.getfield 37, 3) := by decide +kernel
theorem dX10_tread_140 : decode cX10_tread 140 = .ok (.if_icmp .ge 13, 3) := by decide +kernel
theorem dX10_tread_143 : decode cX10_tread 143 = .ok (.aload_n 0, 1) := by decide +kernel
theorem dX10_tread_144 : decode cX10_tread 144 = .ok (.getfield 37, 3) := by decide +kernel
theorem dX10_tread_147 : decode cX10_tread 147 = .ok (.iload 8, 2) := by decide +kernel
theorem dX10_tread_149 : decode cX10_tread 149 = .ok (.isub, 1) := by decide +kernel
theorem dX10_tread_150 : decode cX10_tread 150 = .ok (.goto 4, 3) := by decide +kernel
theorem dX10_tread_153 : decode cX10_tread 153 = .ok (.iconst 0, 1) := by decide +kernel
theorem dX10_tread_154 : decode cX10_tread 154 = .ok (.putfield 37, 3) := by decide +kernel
theorem dX10_tread_157 : decode cX10_tread 157 = .ok (.iinc 5 1, 3) := by decide +kernel
theorem dX10_tread_160 : decode cX10_tread 160 = .ok (.goto (-146), 3) := by decide +kernel
theorem dX10_tread_163 : decode cX10_tread 163 = .ok (.return_, 1) := by decide +kernel
theorem dJ6_bitCount_0f7a4_0 : decode cJ6_bitCount_0f7a4 0 = .ok (.iload_n 0, 1) := by decide +kernel
theorem dJ6_bitCount_0f7a4_1 : decode cJ6_bitCount_0f7a4 1 = .ok (.iload_n 0, 1) := by decide +kernel
theorem dJ6_bitCount_0f7a4_2 : decode cJ6_bitCount_0f7a4 2 = .ok (.iconst 1, 1) := by decide +kernel
theorem dJ6_bitCount_0f7a4_3 : decode cJ6_bitCount_0f7a4 3 = .ok (.iushr, 1) := by decide +kernel
theorem dJ6_bitCount_0f7a4_4 : decode cJ6_bitCount_0f7a4 4 = .ok (.ldc_w 265, 3) := by decide +kernel
theorem dJ6_bitCount_0f7a4_7 : decode cJ6_bitCount_0f7a4 7 = .ok (.iand, 1) := by decide +kernel
theorem dJ6_bitCount_0f7a4_8 : decode cJ6_bitCount_0f7a4 8 = .ok (.isub, 1) := by decide +kernel
theorem dJ6_bitCount_0f7a4_9 : decode cJ6_bitCount_0f7a4 9 = .ok (.istore_n 0, 1) := by decide +kernel
theorem dJ6_bitCount_0f7a4_10 : decode cJ6_bitCount_0f7a4 10 = .ok (.iload_n 0, 1) := by decide +kernel
theorem dJ6_bitCount_0f7a4_11 : decode cJ6_bitCount_0f7a4 11 = .ok (.ldc_w 266, 3) := by decide +kernel
theorem dJ6_bitCount_0f7a4_14 : decode cJ6_bitCount_0f7a4 14 = .ok (.iand, 1) := by decide +kernel
theorem dJ6_bitCount_0f7a4_15 : decode cJ6_bitCount_0f7a4 15 = .ok (.iload_n 0, 1) := by decide +kernel
theorem dJ6_bitCount_0f7a4_16 : decode cJ6_bitCount_0f7a4 16 = .ok (.iconst 2, 1) := by decide +kernel
theorem dJ6_bitCount_0f7a4_17 : decode cJ6_bitCount_0f7a4 17 = .ok (.iushr, 1) := by decide +kernel
theorem dJ6_bitCount_0f7a4_18 : decode cJ6_bitCount_0f7a4 18 = .ok (.ldc_w 266, 3) := by decide +kernel
theorem dJ6_bitCount_0f7a4_21 : decode cJ6_bitCount_0f7a4 21 = .ok (.iand, 1) := by decide +kernel
theorem dJ6_bitCount_0f7a4_22 : decode cJ6_bitCount_0f7a4 22 = .ok (.iadd, 1) := by decide +kernel
theorem dJ6_bitCount_0f7a4_23 : decode cJ6_bitCount_0f7a4 23 = .ok (.istore_n 0, 1) := by decide +kernel
theorem dJ6_bitCount_0f7a4_24 : decode cJ6_bitCount_0f7a4 24 = .ok (.iload_n 0, 1) := by decide +kernel
theorem dJ6_bitCount_0f7a4_25 : decode cJ6_bitCount_0f7a4 25 = .ok (.iload_n 0, 1) := by decide +kernel
theorem dJ6_bitCount_0f7a4_26 : decode cJ6_bitCount_0f7a4 26 = .ok (.iconst 4, 1) := by decide +kernel
theorem dJ6_bitCount_0f7a4_27 : decode cJ6_bitCount_0f7a4 27 = .ok (.iushr, 1) := by decide +kernel
theorem dJ6_bitCount_0f7a4_28 : decode cJ6_bitCount_0f7a4 28 = .ok (.iadd, 1) := by decide +kernel
theorem dJ6_bitCount_0f7a4_29 : decode cJ6_bitCount_0f7a4 29 = .ok (.ldc_w 267, 3) := by decide +kernel
theorem dJ6_bitCount_0f7a4_32 : decode cJ6_bitCount_0f7a4 32 = .ok (.iand, 1) := by decide +kernel
theorem dJ6_bitCount_0f7a4_33 : decode cJ6_bitCount_0f7a4 33 = .ok (.istore_n 0, 1) := by decide +kernel
theorem dJ6_bitCount_0f7a4_34 : decode cJ6_bitCount_0f7a4 34 = .ok (.iload_n 0, 1) := by decide +kernel
theorem dJ6_bitCount_0f7a4_35 : decode cJ6_bitCount_0f7a4 35 = .ok (.iload_n 0, 1) := by decide +kernel
theorem dJ6_bitCount_0f7a4_36 : decode cJ6_bitCount_0f7a4 36 = .ok (.bipush 8, 2) := by decide +kernel
theorem dJ6_bitCount_0f7a4_38 : decode cJ6_bitCount_0f7a4 38 = .ok (.iushr, 1) := by decide +kernel
theorem dJ6_bitCount_0f7a4_39 : decode cJ6_bitCount_0f7a4 39 = .ok (.iadd, 1) := by decide +kernel
theorem dJ6_bitCount_0f7a4_40 : decode cJ6_bitCount_0f7a4 40 = .ok (.istore_n 0, 1) := by decide +kernel
theorem dJ6_bitCount_0f7a4_41 : decode cJ6_bitCount_0f7a4 41 = .ok (.iload_n 0, 1) := by decide +kernel
theorem dJ6_bitCount_0f7a4_42 : decode cJ6_bitCount_0f7a4 42 = .ok (.iload_n 0, 1) := by decide +kernel
theorem dJ6_bitCount_0f7a4_43 : decode cJ6_bitCount_0f7a4 43 = .ok (.bipush 16, 2) := by decide +kernel
theorem dJ6_bitCount_0f7a4_45 : decode cJ6_bitCount_0f7a4 45 = .ok (.iushr, 1) := by decide +kernel
theorem dJ6_bitCount_0f7a4_46 : decode cJ6_bitCount_0f7a4 46 = .ok (.iadd, 1) := by decide +kernel
theorem dJ6_bitCount_0f7a4_47 : decode cJ6_bitCount_0f7a4 47 = .ok (.istore_n 0, 1) := by decide +kernel
theorem dJ6_bitCount_0f7a4_48 : decode cJ6_bitCount_0f7a4 48 = .ok (.iload_n 0, 1) := by decide +kernel
theorem dJ6_bitCount_0f7a4_49 : decode cJ6_bitCount_0f7a4 49 = .ok (.bipush 63, 2) := by decide +kernel
theorem dJ6_bitCount_0f7a4_51 : decode cJ6_bitCount_0f7a4 51 = .ok (.iand, 1) := by decide +kernel
theorem dJ6_bitCount_0f7a4_52 : decode cJ6_bitCount_0f7a4 52 = .ok (.ireturn, 1) := by decide +kernel
theorem dJ9_max_7cf53_0 : decode cJ9_max_7cf53 0 = .ok (.iload_n 0, 1) := by decide +kernel
theorem dJ9_max_7cf53_1 : decode cJ9_max_7cf53 1 = .ok (.iload_n 1, 1) := by decide +kernel
theorem dJ9_max_7cf53_2 : decode cJ9_max_7cf53 2 = .ok (.if_icmp .lt 7, 3) := by decide +kernel
theorem dJ9_max_7cf53_5 : decode cJ9_max_7cf53 5 = .ok (.iload_n 0, 1) := by decide +kernel
theorem dJ9_max_7cf53_6 : decode cJ9_max_7cf53 6 = .ok (.goto 4, 3) := by decide +kernel
theorem dJ9_max_7cf53_9 : decode cJ9_max_7cf53 9 = .ok (.iload_n 1, 1) := by decide +kernel
theorem dJ9_max_7cf53_10 : decode cJ9_max_7cf53 10 = .ok (.ireturn, 1) := by decide +kernel
theorem dJ9_min_7cf53_0 : decode cJ9_min_7cf53 0 = .ok (.iload_n 0, 1) := by decide +kernel
theorem dJ9_min_7cf53_1 : decode cJ9_min_7cf53 1 = .ok (.iload_n 1, 1) := by decide +kernel
theorem dJ9_min_7cf53_2 : decode cJ9_min_7cf53 2 = .ok (.if_icmp .gt 7, 3) := by decide +kernel
theorem dJ9_min_7cf53_5 : decode cJ9_min_7cf53 5 = .ok (.iload_n 0, 1) := by decide +kernel
theorem dJ9_min_7cf53_6 : decode cJ9_min_7cf53 6 = .ok (.goto 4, 3) := by decide +kernel
theorem dJ9_min_7cf53_9 : decode cJ9_min_7cf53 9 = .ok (.iload_n 1, 1) := by decide +kernel
theorem dJ9_min_7cf53_10 : decode cJ9_min_7cf53 10 = .ok (.ireturn, 1) := by decide +kernel
