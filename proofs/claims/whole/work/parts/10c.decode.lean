theorem dX11_init_0 : decode cX11_init 0 = .ok (.aload_n 0, 1) := by decide +kernel
theorem dX11_init_1 : decode cX11_init 1 = .ok (.invokespecial 1, 3) := by decide +kernel
theorem dX11_init_4 : decode cX11_init 4 = .ok (.aload_n 0, 1) := by decide +kernel
theorem dX11_init_5 : decode cX11_init 5 = .ok (.sipush 700, 3) := by decide +kernel
theorem dX11_init_8 : decode cX11_init 8 = .ok (.newarray .int, 2) := by decide +kernel
theorem dX11_init_10 : decode cX11_init 10 = .ok (.putfield 9, 3) := by decide +kernel
theorem dX11_init_13 : decode cX11_init 13 = .ok (.aload_n 0, 1) := by decide +kernel
theorem dX11_init_14 : decode cX11_init 14 = .ok (.iconst 0, 1) := by decide +kernel
theorem dX11_init_15 : decode cX11_init 15 = .ok (.putfield 13, 3) := by decide +kernel
theorem dX11_init_18 : decode cX11_init 18 = .ok (.aload_n 0, 1) := by decide +kernel
theorem dX11_init_19 : decode cX11_init 19 = .ok (.new 17, 3) := by decide +kernel
theorem dX11_init_22 : decode cX11_init 22 = .ok (.dup, 1) := by decide +kernel
theorem dX11_init_23 : decode cX11_init 23 = .ok (.aload_n 0, 1) := by decide +kernel
theorem dX11_init_24 : decode cX11_init 24 = .ok (.getfield 9, 3) := by decide +kernel
theorem dX11_init_27 : decode cX11_init 27 = .ok (.invokespecial 19, 3) := by decide +kernel
theorem dX11_init_30 : decode cX11_init 30 = .ok (.putfield 22, 3) := by decide +kernel
theorem dX11_init_33 : decode cX11_init 33 = .ok (.aload_n 0, 1) := by decide +kernel
theorem dX11_init_34 : decode cX11_init 34 = .ok (.new 26, 3) := by decide +kernel
theorem dX11_init_37 : decode cX11_init 37 = .ok (.dup, 1) := by decide +kernel
theorem dX11_init_38 : decode cX11_init 38 = .ok (.invokespecial 28, 3) := by decide +kernel
theorem dX11_init_41 : decode cX11_init 41 = .ok (.putfield 29, 3) := by decide +kernel
theorem dX11_init_44 : decode cX11_init 44 = .ok (.aload_n 0, 1) := by decide +kernel
theorem dX11_init_45 : decode cX11_init 45 = .ok (.new 26, 3) := by decide +kernel
theorem dX11_init_48 : decode cX11_init 48 = .ok (.dup, 1) := by decide +kernel
theorem dX11_init_49 : decode cX11_init 49 = .ok (.invokespecial 28, 3) := by decide +kernel
theorem dX11_init_52 : decode cX11_init 52 = .ok (.putfield 33, 3) := by decide +kernel
theorem dX11_init_55 : decode cX11_init 55 = .ok (.aload_n 0, 1) := by decide +kernel
theorem dX11_init_56 : decode cX11_init 56 = .ok (.bipush 8, 2) := by decide +kernel
theorem dX11_init_58 : decode cX11_init 58 = .ok (.putfield 36, 3) := by decide +kernel
theorem dX11_init_61 : decode cX11_init 61 = .ok (.aload_n 0, 1) := by decide +kernel
theorem dX11_init_62 : decode cX11_init 62 = .ok (.iconst 0, 1) := by decide +kernel
theorem dX11_init_63 : decode cX11_init 63 = .ok (.putfield 39, 3) := by decide +kernel
theorem dX11_init_66 : decode cX11_init 66 = .ok (.aload_n 0, 1) := by decide +kernel
theorem dX11_init_67 : decode cX11_init 67 = .ok (.new 43, 3) := by decide +kernel
theorem dX11_init_70 : decode cX11_init 70 = .ok (.dup, 1) := by decide +kernel
theorem dX11_init_71 : decode cX11_init 71 = .ok (.aload_n 0, 1) := by decide +kernel
theorem dX11_init_72 : decode cX11_init 72 = .ok (.getfield 29, 3) := by decide +kernel
theorem dX11_init_75 : decode cX11_init 75 = .ok (.invokespecial 45, 3) := by decide +kernel
theorem dX11_init_78 : decode cX11_init 78 = .ok (.putfield 48, 3) := by decide +kernel
theorem dX11_init_81 : decode cX11_init 81 = .ok (.aload_n 0, 1) := by decide +kernel
theorem dX11_init_82 : decode cX11_init 82 = .ok (.new 52, 3) := by decide +kernel
theorem dX11_init_85 : decode cX11_init 85 = .ok (.dup, 1) := by decide +kernel
theorem dX11_init_86 : decode cX11_init 86 = .ok (.invokespecial 54, 3) := by decide +kernel
theorem dX11_init_89 : decode cX11_init 89 = .ok (.putfield 55, 3) := by decide +kernel
theorem dX11_init_92 : decode cX11_init 92 = .ok (.aload_n 0, 1) := by decide +kernel
theorem dX11_init_93 : decode cX11_init 93 = .ok (.bipush 20, 2) := by decide +kernel
theorem dX11_init_95 : decode cX11_init 95 = .ok (.anewarray 52, 3) := by decide +kernel
theorem dX11_init_98 : decode cX11_init 98 = .ok (.putfield 59, 3) := by decide +kernel
theorem dX11_init_101 : decode cX11_init 101 = .ok (.aload_n 0, 1) := by decide +kernel
theorem dX11_init_102 : decode cX11_init 102 = .ok (.iconst 0, 1) := by decide +kernel
theorem dX11_init_103 : decode cX11_init 103 = .ok (.putfield 63, 3) := by decide +kernel
theorem dX11_init_106 : decode cX11_init 106 = .ok (.aload_n 0, 1) := by decide +kernel
theorem dX11_init_107 : decode cX11_init 107 = .ok (.new 52, 3) := by decide +kernel
theorem dX11_init_110 : decode cX11_init 110 = .ok (.dup, 1) := by decide +kernel
theorem dX11_init_111 : decode cX11_init 111 = .ok (.invokespecial 54, 3) := by decide +kernel
theorem dX11_init_114 : decode cX11_init 114 = .ok (.putfield 66, 3) := by decide +kernel
theorem dX11_init_117 : decode cX11_init 117 = .ok (.aload_n 0, 1) := by decide +kernel
theorem dX11_init_118 : decode cX11_init 118 = .ok (.iconst 0, 1) := by decide +kernel
theorem dX11_init_119 : decode cX11_init 119 = .ok (.putfield 69, 3) := by decide +kernel
theorem dX11_init_122 : decode cX11_init 122 = .ok (.aload_n 0, 1) := by decide +kernel
theorem dX11_init_123 : decode cX11_init 123 = .ok (.iconst 0, 1) := by decide +kernel
theorem dX11_init_124 : decode cX11_init 124 = .ok (.putfield 72, 3) := by decide +kernel
theorem dX11_init_127 : decode cX11_init 127 = .ok (.aload_n 0, 1) := by decide +kernel
theorem dX11_init_128 : decode cX11_init 128 = .ok (.iconst 0, 1) := by decide +kernel
theorem dX11_init_129 : decode cX11_init 129 = .ok (.putfield 75, 3) := by decide +kernel
theorem dX11_init_132 : decode cX11_init 132 = .ok (.aload_n 0, 1) := by decide +kernel
theorem dX11_init_133 : decode cX11_init 133 = .ok (.new 52, 3) := by decide +kernel
theorem dX11_init_136 : decode cX11_init 136 = .ok (.dup, 1) := by decide +kernel
theorem dX11_init_137 : decode cX11_init 137 = .ok (.invokespecial 54, 3) := by decide +kernel
theorem dX11_init_140 : decode cX11_init 140 = .ok (.putfield 78, 3) := by decide +kernel
theorem dX11_init_143 : decode cX11_init 143 = .ok (.aload_n 0, 1) := by decide +kernel
theorem dX11_init_144 : decode cX11_init 144 = .ok (.new 81, 3) := by decide +kernel
theorem dX11_init_147 : decode cX11_init 147 = .ok (.dup, 1) := by decide +kernel
theorem dX11_init_148 : decode cX11_init 148 = .ok (.aload_n 0, 1) := by decide +kernel
theorem dX11_init_149 : decode cX11_init 149 = .ok (.getfield 48, 3) := by decide +kernel
theorem dX11_init_152 : decode cX11_init 152 = .ok (.invokespecial 83, 3) := by decide +kernel
theorem dX11_init_155 : decode cX11_init 155 = .ok (.putfield 86, 3) := by decide +kernel
theorem dX11_init_158 : decode cX11_init 158 = .ok (.aload_n 0, 1) := by decide +kernel
theorem dX11_init_159 : decode cX11_init 159 = .ok (.new 90, 3) := by decide +kernel
theorem dX11_init_162 : decode cX11_init 162 = .ok (.dup, 1) := by decide +kernel
theorem dX11_init_163 : decode cX11_init 163 = .ok (.invokespecial 92, 3) := by decide +kernel
theorem dX11_init_166 : decode cX11_init 166 = .ok (.putfield 93, 3) := by decide +kernel
theorem dX11_init_169 : decode cX11_init 169 = .ok (.aload_n 0, 1) := by decide +kernel
theorem dX11_init_170 : decode cX11_init 170 = .ok (.new 97, 3) := by decide +kernel
theorem dX11_init_173 : decode cX11_init 173 = .ok (.dup, 1) := by decide +kernel
theorem dX11_init_174 : decode cX11_init 174 = .ok (.invokespecial 99, 3) := by decide +kernel
theorem dX11_init_177 : decode cX11_init 177 = .ok (.putfield 100, 3) := by decide +kernel
theorem dX11_init_180 : decode cX11_init 180 = .ok (.aload_n 0, 1) := by decide +kernel
theorem dX11_init_181 : decode cX11_init 181 = .ok (.new 104, 3) := by decide +kernel
theorem dX11_init_184 : decode cX11_init 184 = .ok (.dup, 1) := by decide +kernel
theorem dX11_init_185 : decode cX11_init 185 = .ok (.invokespecial 106, 3) := by decide +kernel
theorem dX11_init_188 : decode cX11_init 188 = .ok (.putfield 107, 3) := by decide +kernel
theorem dX11_init_191 : decode cX11_init 191 = .ok (.iconst 0, 1) := by decide +kernel
theorem dX11_init_192 : decode cX11_init 192 = .ok (.istore_n 1, 1) := by decide +kernel
theorem dX11_init_193 : decode cX11_init 193 = .ok (.iload_n 1, 1) := by decide +kernel
theorem dX11_init_194 : decode cX11_init 194 = .ok (.bipush 20, 2) := by decide +kernel
theorem dX11_init_196 : decode cX11_init 196 = .ok (.if_icmp .ge 22, 3) := by decide +kernel
theorem dX11_init_199 : decode cX11_init 199 = .ok (.aload_n 0, 1) := by decide +kernel
theorem dX11_init_200 : decode cX11_init 200 = .ok (.getfield 59, 3) := by decide +kernel
theorem dX11_init_203 : decode cX11_init 203 = .ok (.iload_n 1, 1) := by decide +kernel
theorem dX11_init_204 : decode cX11_init 204 = .ok (.new 52, 3) := by decide +kernel
theorem dX11_init_207 : decode cX11_init 207 = .ok (.dup, 1) := by decide +kernel
theorem dX11_init_208 : decode cX11_init 208 = .ok (.invokespecial 54, 3) := by decide +kernel
theorem dX11_init_211 : decode cX11_init 211 = .ok (.aastore, 1) := by decide +kernel
theorem dX11_init_212 : decode cX11_init 212 = .ok (.iinc 1 1, 3) := by decide +kernel
theorem dX11_init_215 : decode cX11_init 215 = .ok (.goto (-22), 3) := by decide +kernel
theorem dX11_init_218 : decode cX11_init 218 = .ok (.return_, 1) := by decide +kernel
theorem dX11_feed_0 : decode cX11_feed 0 = .ok (.aload_n 0, 1) := by decide +kernel
theorem dX11_feed_1 : decode cX11_feed 1 = .ok (.getfield 13, 3) := by decide +kernel
theorem dX11_feed_4 : decode cX11_feed 4 = .ok (.bipush 20, 2) := by decide +kernel
theorem dX11_feed_6 : decode cX11_feed 6 = .ok (.iadd, 1) := by decide +kernel
theorem dX11_feed_7 : decode cX11_feed 7 = .ok (.sipush 700, 3) := by decide +kernel
theorem dX11_feed_10 : decode cX11_feed 10 = .ok (.if_icmp .le 5, 3) := by decide +kernel
theorem dX11_feed_13 : decode cX11_feed 13 = .ok (.iconst (-1), 1) := by decide +kernel
theorem dX11_feed_14 : decode cX11_feed 14 = .ok (.ireturn, 1) := by decide +kernel
theorem dX11_feed_15 : decode cX11_feed 15 = .ok (.aload_n 0, 1) := by decide +kernel
theorem dX11_feed_16 : decode cX11_feed 16 = .ok (.iload_n 1, 1) := by decide +kernel
theorem dX11_feed_17 : decode cX11_feed 17 = .ok (.invokevirtual 111, 3) := by decide +kernel
theorem dX11_feed_20 : decode cX11_feed 20 = .ok (.aload_n 0, 1) := by decide +kernel
theorem dX11_feed_21 : decode cX11_feed 21 = .ok (.iload_n 2, 1) := by decide +kernel
theorem dX11_feed_22 : decode cX11_feed 22 = .ok (.invokevirtual 111, 3) := by decide +kernel
theorem dX11_feed_25 : decode cX11_feed 25 = .ok (.aload_n 0, 1) := by decide +kernel
theorem dX11_feed_26 : decode cX11_feed 26 = .ok (.iload_n 3, 1) := by decide +kernel
theorem dX11_feed_27 : decode cX11_feed 27 = .ok (.invokevirtual 111, 3) := by decide +kernel
theorem dX11_feed_30 : decode cX11_feed 30 = .ok (.aload_n 0, 1) := by decide +kernel
theorem dX11_feed_31 : decode cX11_feed 31 = .ok (.iload 4, 2) := by decide +kernel
theorem dX11_feed_33 : decode cX11_feed 33 = .ok (.invokevirtual 111, 3) := by decide +kernel
theorem dX11_feed_36 : decode cX11_feed 36 = .ok (.aload_n 0, 1) := by decide +kernel
theorem dX11_feed_37 : decode cX11_feed 37 = .ok (.iload 5, 2) := by decide +kernel
theorem dX11_feed_39 : decode cX11_feed 39 = .ok (.invokevirtual 111, 3) := by decide +kernel
theorem dX11_feed_42 : decode cX11_feed 42 = .ok (.aload_n 0, 1) := by decide +kernel
theorem dX11_feed_43 : decode cX11_feed 43 = .ok (.getfield 13, 3) := by decide +kernel
theorem dX11_feed_46 : decode cX11_feed 46 = .ok (.ireturn, 1) := by decide +kernel
theorem dX11_tapeNumber_0 : decode cX11_tapeNumber 0 = .ok (.bipush 24, 2) := by decide +kernel
theorem dX11_tapeNumber_2 : decode cX11_tapeNumber 2 = .ok (.istore_n 2, 1) := by decide +kernel
theorem dX11_tapeNumber_3 : decode cX11_tapeNumber 3 = .ok (.iload_n 2, 1) := by decide +kernel
theorem dX11_tapeNumber_4 : decode cX11_tapeNumber 4 = .ok (.ifCond .lt 45, 3) := by decide +kernel
theorem dX11_tapeNumber_7 : decode cX11_tapeNumber 7 = .ok (.aload_n 0, 1) := by decide +kernel
theorem dX11_tapeNumber_8 : decode cX11_tapeNumber 8 = .ok (.getfield 13, 3) := by decide +kernel
theorem dX11_tapeNumber_11 : decode cX11_tapeNumber 11 = .ok (.sipush 700, 3) := by decide +kernel
theorem dX11_tapeNumber_14 : decode cX11_tapeNumber 14 = .ok (.if_icmp .ge 35, 3) := by decide +kernel
theorem dX11_tapeNumber_17 : decode cX11_tapeNumber 17 = .ok (.aload_n 0, 1) := by decide +kernel
theorem dX11_tapeNumber_18 : decode cX11_tapeNumber 18 = .ok (.getfield 9, 3) := by decide +kernel
theorem dX11_tapeNumber_21 : decode cX11_tapeNumber 21 = .ok (.aload_n 0, 1) := by decide +kernel
theorem dX11_tapeNumber_22 : decode cX11_tapeNumber 22 = .ok (.getfield 13, 3) := by decide +kernel
theorem dX11_tapeNumber_25 : decode cX11_tapeNumber 25 = .ok (.iload_n 1, 1) := by decide +kernel
theorem dX11_tapeNumber_26 : decode cX11_tapeNumber 26 = .ok (.iload_n 2, 1) := by decide +kernel
theorem dX11_tapeNumber_27 : decode cX11_tapeNumber 27 = .ok (.iushr, 1) := by decide +kernel
theorem dX11_tapeNumber_28 : decode cX11_tapeNumber 28 = .ok (.sipush 255, 3) := by decide +kernel
theorem dX11_tapeNumber_31 : decode cX11_tapeNumber 31 = .ok (.iand, 1) := by decide +kernel
theorem dX11_tapeNumber_32 : decode cX11_tapeNumber 32 = .ok (.iastore, 1) := by decide +kernel
theorem dX11_tapeNumber_33 : decode cX11_tapeNumber 33 = .ok (.aload_n 0, 1) := by decide +kernel
theorem dX11_tapeNumber_34 : decode cX11_tapeNumber 34 = .ok (.dup, 1) := by decide +kernel
theorem dX11_tapeNumber_35 : decode cX11_tapeNumber 35 = .ok (.getfield 13, 3) := by decide +kernel
theorem dX11_tapeNumber_38 : decode cX11_tapeNumber 38 = .ok (.iconst 1, 1) := by decide +kernel
theorem dX11_tapeNumber_39 : decode cX11_tapeNumber 39 = .ok (.iadd, 1) := by decide +kernel
theorem dX11_tapeNumber_40 : decode cX11_tapeNumber 40 = .ok (.putfield 13, 3) := by decide +kernel
theorem dX11_tapeNumber_43 : decode cX11_tapeNumber 43 = .ok (.iinc 2 (-8), 3) := by decide +kernel
theorem dX11_tapeNumber_46 : decode cX11_tapeNumber 46 = .ok (.goto (-43), 3) := by decide +kernel
theorem dX11_tapeNumber_49 : decode cX11_tapeNumber 49 = .ok (.return_, 1) := by decide +kernel
theorem dX11_text_0 : decode cX11_text 0 = .ok (.iload_n 1, 1) := by decide +kernel
theorem dX11_text_1 : decode cX11_text 1 = .ok (.ifCond .lt 11, 3) := by decide +kernel
theorem dX11_text_4 : decode cX11_text 4 = .ok (.iload_n 1, 1) := by decide +kernel
theorem dX11_text_5 : decode cX11_text 5 = .ok (.aload_n 0, 1) := by decide +kernel
theorem dX11_text_6 : decode cX11_text 6 = .ok (.getfield 13, 3) := by decide +kernel
theorem dX11_text_9 : decode cX11_text 9 = .ok (.if_icmp .le 6, 3) := by decide +kernel
theorem dX11_text_12 : decode cX11_text 12 = .ok (.bipush (-2), 2) := by decide +kernel
theorem dX11_text_14 : decode cX11_text 14 = .ok (.ireturn, 1) := by decide +kernel
theorem dX11_text_15 : decode cX11_text 15 = .ok (.aload_n 0, 1) := by decide +kernel
theorem dX11_text_16 : decode cX11_text 16 = .ok (.iconst 0, 1) := by decide +kernel
theorem dX11_text_17 : decode cX11_text 17 = .ok (.putfield 13, 3) := by decide +kernel
theorem dX11_text_20 : decode cX11_text 20 = .ok (.aload_n 0, 1) := by decide +kernel
theorem dX11_text_21 : decode cX11_text 21 = .ok (.getfield 22, 3) := by decide +kernel
theorem dX11_text_24 : decode cX11_text 24 = .ok (.aload_n 0, 1) := by decide +kernel
theorem dX11_text_25 : decode cX11_text 25 = .ok (.getfield 33, 3) := by decide +kernel
theorem dX11_text_28 : decode cX11_text 28 = .ok (.iload_n 1, 1) := by decide +kernel
theorem dX11_text_29 : decode cX11_text 29 = .ok (.invokevirtual 115, 3) := by decide +kernel
theorem dX11_text_32 : decode cX11_text 32 = .ok (.ifCond .ne 5, 3) := by decide +kernel
theorem dX11_text_35 : decode cX11_text 35 = .ok (.iconst (-1), 1) := by decide +kernel
theorem dX11_text_36 : decode cX11_text 36 = .ok (.ireturn, 1) := by decide +kernel
theorem dX11_text_37 : decode cX11_text 37 = .ok (.aload_n 0, 1) := by decide +kernel
theorem dX11_text_38 : decode cX11_text 38 = .ok (.getfield 29, 3) := by decide +kernel
theorem dX11_text_41 : decode cX11_text 41 = .ok (.astore_n 2, 1) := by decide +kernel
theorem dX11_text_42 : decode cX11_text 42 = .ok (.aload_n 0, 1) := by decide +kernel
theorem dX11_text_43 : decode cX11_text 43 = .ok (.aload_n 0, 1) := by decide +kernel
theorem dX11_text_44 : decode cX11_text 44 = .ok (.getfield 33, 3) := by decide +kernel
theorem dX11_text_47 : decode cX11_text 47 = .ok (.putfield 29, 3) := by decide +kernel
theorem dX11_text_50 : decode cX11_text 50 = .ok (.aload_n 0, 1) := by decide +kernel
theorem dX11_text_51 : decode cX11_text 51 = .ok (.aload_n 2, 1) := by decide +kernel
theorem dX11_text_52 : decode cX11_text 52 = .ok (.putfield 33, 3) := by decide +kernel
theorem dX11_text_55 : decode cX11_text 55 = .ok (.aload_n 0, 1) := by decide +kernel
theorem dX11_text_56 : decode cX11_text 56 = .ok (.aload_n 0, 1) := by decide +kernel
theorem dX11_text_57 : decode cX11_text 57 = .ok (.getfield 29, 3) := by decide +kernel
theorem dX11_text_60 : decode cX11_text 60 = .ok (.getfield 119, 3) := by decide +kernel
theorem dX11_text_63 : decode cX11_text 63 = .ok (.iconst (-1), 1) := by decide +kernel
theorem dX11_text_64 : decode cX11_text 64 = .ok (.if_icmp .ne 8, 3) := by decide +kernel
theorem dX11_text_67 : decode cX11_text 67 = .ok (.bipush 8, 2) := by decide +kernel
theorem dX11_text_69 : decode cX11_text 69 = .ok (.goto 10, 3) := by decide +kernel
theorem dX11_text_72 : decode cX11_text 72 = .ok (.aload_n 0, 1) := by decide +kernel
theorem dX11_text_73 : decode cX11_text 73 = .ok (.getfield 29, 3) := by decide +kernel
theorem dX11_text_76 : decode cX11_text 76 = .ok (.getfield 119, 3) := by decide +kernel
theorem dX11_text_79 : decode cX11_text 79 = .ok (.putfield 36, 3) := by decide +kernel
theorem dX11_text_82 : decode cX11_text 82 = .ok (.aload_n 0, 1) := by decide +kernel
theorem dX11_text_83 : decode cX11_text 83 = .ok (.iconst 0, 1) := by decide +kernel
theorem dX11_text_84 : decode cX11_text 84 = .ok (.putfield 39, 3) := by decide +kernel
theorem dX11_text_87 : decode cX11_text 87 = .ok (.aload_n 0, 1) := by decide +kernel
theorem dX11_text_88 : decode cX11_text 88 = .ok (.getfield 55, 3) := by decide +kernel
theorem dX11_text_91 : decode cX11_text 91 = .ok (.iconst 0, 1) := by decide +kernel
theorem dX11_text_92 : decode cX11_text 92 = .ok (.putfield 122, 3) := by decide +kernel
theorem dX11_text_95 : decode cX11_text 95 = .ok (.aload_n 0, 1) := by decide +kernel
theorem dX11_text_96 : decode cX11_text 96 = .ok (.getfield 55, 3) := by decide +kernel
theorem dX11_text_99 : decode cX11_text 99 = .ok (.aload_n 0, 1) := by decide +kernel
theorem dX11_text_100 : decode cX11_text 100 = .ok (.getfield 29, 3) := by decide +kernel
theorem dX11_text_103 : decode cX11_text 103 = .ok (.getfield 125, 3) := by decide +kernel
theorem dX11_text_106 : decode cX11_text 106 = .ok (.iconst (-1), 1) := by decide +kernel
theorem dX11_text_107 : decode cX11_text 107 = .ok (.if_icmp .ne 7, 3) := by decide +kernel
theorem dX11_text_110 : decode cX11_text 110 = .ok (.lconst 0, 1) := by decide +kernel
theorem dX11_text_111 : decode cX11_text 111 = .ok (.goto 11, 3) := by decide +kernel
theorem dX11_text_114 : decode cX11_text 114 = .ok (.aload_n 0, 1) := by decide +kernel
theorem dX11_text_115 : decode cX11_text 115 = .ok (.getfield 29, 3) := by decide +kernel
theorem dX11_text_118 : decode cX11_text 118 = .ok (.getfield 125, 3) := by decide +kernel
theorem dX11_text_121 : decode cX11_text 121 = .ok (.i2l, 1) := by decide +kernel
theorem dX11_text_122 : decode cX11_text 122 = .ok (.putfield 128, 3) := by decide +kernel
theorem dX11_text_125 : decode cX11_text 125 = .ok (.aload_n 0, 1) := by decide +kernel
theorem dX11_text_126 : decode cX11_text 126 = .ok (.iconst 0, 1) := by decide +kernel
theorem dX11_text_127 : decode cX11_text 127 = .ok (.putfield 63, 3) := by decide +kernel
theorem dX11_text_130 : decode cX11_text 130 = .ok (.aload_n 0, 1) := by decide +kernel
theorem dX11_text_131 : decode cX11_text 131 = .ok (.iconst 0, 1) := by decide +kernel
theorem dX11_text_132 : decode cX11_text 132 = .ok (.putfield 69, 3) := by decide +kernel
theorem dX11_text_135 : decode cX11_text 135 = .ok (.aload_n 0, 1) := by decide +kernel
theorem dX11_text_136 : decode cX11_text 136 = .ok (.getfield 100, 3) := by decide +kernel
theorem dX11_text_139 : decode cX11_text 139 = .ok (.invokevirtual 132, 3) := by decide +kernel
theorem dX11_text_142 : decode cX11_text 142 = .ok (.aload_n 0, 1) := by decide +kernel
theorem dX11_text_143 : decode cX11_text 143 = .ok (.getfield 93, 3) := by decide +kernel
theorem dX11_text_146 : decode cX11_text 146 = .ok (.invokevirtual 135, 3) := by decide +kernel
theorem dX11_text_149 : decode cX11_text 149 = .ok (.aload_n 0, 1) := by decide +kernel
theorem dX11_text_150 : decode cX11_text 150 = .ok (.getfield 48, 3) := by decide +kernel
theorem dX11_text_153 : decode cX11_text 153 = .ok (.aload_n 0, 1) := by decide +kernel
theorem dX11_text_154 : decode cX11_text 154 = .ok (.getfield 29, 3) := by decide +kernel
theorem dX11_text_157 : decode cX11_text 157 = .ok (.invokevirtual 138, 3) := by decide +kernel
theorem dX11_text_160 : decode cX11_text 160 = .ok (.aload_n 0, 1) := by decide +kernel
theorem dX11_text_161 : decode cX11_text 161 = .ok (.getfield 29, 3) := by decide +kernel
theorem dX11_text_164 : decode cX11_text 164 = .ok (.getfield 141, 3) := by decide +kernel
theorem dX11_text_167 : decode cX11_text 167 = .ok (.ireturn, 1) := by decide +kernel
theorem dX11_fault_0 : decode cX11_fault 0 = .ok (.iload_n 1, 1) := by decide +kernel
theorem dX11_fault_1 : decode cX11_fault 1 = .ok (.ifCond .ne 11, 3) := by decide +kernel
theorem dX11_fault_4 : decode cX11_fault 4 = .ok (.aload_n 0, 1) := by decide +kernel
theorem dX11_fault_5 : decode cX11_fault 5 = .ok (.getfield 22, 3) := by decide +kernel
theorem dX11_fault_8 : decode cX11_fault 8 = .ok (.getfield 144, 3) := by decide +kernel
theorem dX11_fault_11 : decode cX11_fault 11 = .ok (.ireturn, 1) := by decide +kernel
theorem dX11_fault_12 : decode cX11_fault 12 = .ok (.iload_n 1, 1) := by decide +kernel
theorem dX11_fault_13 : decode cX11_fault 13 = .ok (.iconst 1, 1) := by decide +kernel
theorem dX11_fault_14 : decode cX11_fault 14 = .ok (.if_icmp .ne 13, 3) := by decide +kernel
theorem dX11_fault_17 : decode cX11_fault 17 = .ok (.aload_n 0, 1) := by decide +kernel
theorem dX11_fault_18 : decode cX11_fault 18 = .ok (.getfield 22, 3) := by decide +kernel
theorem dX11_fault_21 : decode cX11_fault 21 = .ok (.getfield 147, 3) := by decide +kernel
theorem dX11_fault_24 : decode cX11_fault 24 = .ok (.goto 4, 3) := by decide +kernel
theorem dX11_fault_27 : decode cX11_fault 27 = .ok (.iconst (-1), 1) := by decide +kernel
theorem dX11_fault_28 : decode cX11_fault 28 = .ok (.ireturn, 1) := by decide +kernel
theorem dX11_named_0 : decode cX11_named 0 = .ok (.iload_n 1, 1) := by decide +kernel
theorem dX11_named_1 : decode cX11_named 1 = .ok (.ifCond .lt 8, 3) := by decide +kernel
theorem dX11_named_4 : decode cX11_named 4 = .ok (.iload_n 1, 1) := by decide +kernel
theorem dX11_named_5 : decode cX11_named 5 = .ok (.iconst 4, 1) := by decide +kernel
theorem dX11_named_6 : decode cX11_named 6 = .ok (.if_icmp .le 5, 3) := by decide +kernel
theorem dX11_named_9 : decode cX11_named 9 = .ok (.iconst (-1), 1) := by decide +kernel
theorem dX11_named_10 : decode cX11_named 10 = .ok (.ireturn, 1) := by decide +kernel
theorem dX11_named_11 : decode cX11_named 11 = .ok (.aload_n 0, 1) := by decide +kernel
theorem dX11_named_12 : decode cX11_named 12 = .ok (.getfield 29, 3) := by decide +kernel
theorem dX11_named_15 : decode cX11_named 15 = .ok (.getfield 150, 3) := by decide +kernel
theorem dX11_named_18 : decode cX11_named 18 = .ok (.iload_n 1, 1) := by decide +kernel
theorem dX11_named_19 : decode cX11_named 19 = .ok (.aaload, 1) := by decide +kernel
theorem dX11_named_20 : decode cX11_named 20 = .ok (.iload_n 2, 1) := by decide +kernel
theorem dX11_named_21 : decode cX11_named 21 = .ok (.invokevirtual 154, 3) := by decide +kernel
theorem dX11_named_24 : decode cX11_named 24 = .ok (.ireturn, 1) := by decide +kernel
theorem dX11_look_0 : decode cX11_look 0 = .ok (.aload_n 0, 1) := by decide +kernel
theorem dX11_look_1 : decode cX11_look 1 = .ok (.getfield 29, 3) := by decide +kernel
theorem dX11_look_4 : decode cX11_look 4 = .ok (.iconst 0, 1) := by decide +kernel
theorem dX11_look_5 : decode cX11_look 5 = .ok (.iload_n 1, 1) := by decide +kernel
theorem dX11_look_6 : decode cX11_look 6 = .ok (.invokevirtual 160, 3) := by decide +kernel
theorem dX11_look_9 : decode cX11_look 9 = .ok (.ifCond .ne 13, 3) := by decide +kernel
theorem dX11_look_12 : decode cX11_look 12 = .ok (.new 164, 3) := by decide +kernel
theorem dX11_look_15 : decode cX11_look 15 = .ok (.dup, 1) := by decide +kernel
theorem dX11_look_16 : decode cX11_look 16 = .ok (.ldc 166, 2) := by decide +kernel
theorem dX11_look_18 : decode cX11_look 18 = .ok (.invokespecial 168, 3) := by decide +kernel
theorem dX11_look_21 : decode cX11_look 21 = .ok (.athrow, 1) := by decide +kernel
theorem dX11_look_22 : decode cX11_look 22 = .ok (.iload_n 2, 1) := by decide +kernel
theorem dX11_look_23 : decode cX11_look 23 = .ok (.ifCond .lt 8, 3) := by decide +kernel
theorem dX11_look_26 : decode cX11_look 26 = .ok (.iload_n 2, 1) := by decide +kernel
theorem dX11_look_27 : decode cX11_look 27 = .ok (.iconst 3, 1) := by decide +kernel
theorem dX11_look_28 : decode cX11_look 28 = .ok (.if_icmp .le 13, 3) := by decide +kernel
theorem dX11_look_31 : decode cX11_look 31 = .ok (.new 171, 3) := by decide +kernel
theorem dX11_look_34 : decode cX11_look 34 = .ok (.dup, 1) := by decide +kernel
theorem dX11_look_35 : decode cX11_look 35 = .ok (.ldc 173, 2) := by decide +kernel
theorem dX11_look_37 : decode cX11_look 37 = .ok (.invokespecial 175, 3) := by decide +kernel
theorem dX11_look_40 : decode cX11_look 40 = .ok (.athrow, 1) := by decide +kernel
theorem dX11_look_41 : decode cX11_look 41 = .ok (.iload_n 2, 1) := by decide +kernel
theorem dX11_look_42 : decode cX11_look 42 = .ok (.iconst 3, 1) := by decide +kernel
theorem dX11_look_43 : decode cX11_look 43 = .ok (.if_icmp .ne 12, 3) := by decide +kernel
theorem dX11_look_46 : decode cX11_look 46 = .ok (.aload_n 0, 1) := by decide +kernel
theorem dX11_look_47 : decode cX11_look 47 = .ok (.getfield 39, 3) := by decide +kernel
theorem dX11_look_50 : decode cX11_look 50 = .ok (.ifCond .eq 5, 3) := by decide +kernel
theorem dX11_look_53 : decode cX11_look 53 = .ok (.iconst 1, 1) := by decide +kernel
theorem dX11_look_54 : decode cX11_look 54 = .ok (.ireturn, 1) := by decide +kernel
theorem dX11_look_55 : decode cX11_look 55 = .ok (.aload_n 0, 1) := by decide +kernel
theorem dX11_look_56 : decode cX11_look 56 = .ok (.getfield 29, 3) := by decide +kernel
theorem dX11_look_59 : decode cX11_look 59 = .ok (.iconst 0, 1) := by decide +kernel
theorem dX11_look_60 : decode cX11_look 60 = .ok (.iload_n 1, 1) := by decide +kernel
theorem dX11_look_61 : decode cX11_look 61 = .ok (.iload_n 2, 1) := by decide +kernel
theorem dX11_look_62 : decode cX11_look 62 = .ok (.invokevirtual 176, 3) := by decide +kernel
theorem dX11_look_65 : decode cX11_look 65 = .ok (.ireturn, 1) := by decide +kernel
theorem dX11_pace_0 : decode cX11_pace 0 = .ok (.aload_n 0, 1) := by decide +kernel
theorem dX11_pace_1 : decode cX11_pace 1 = .ok (.getfield 29, 3) := by decide +kernel
theorem dX11_pace_4 : decode cX11_pace 4 = .ok (.iconst 3, 1) := by decide +kernel
theorem dX11_pace_5 : decode cX11_pace 5 = .ok (.iload_n 1, 1) := by decide +kernel
theorem dX11_pace_6 : decode cX11_pace 6 = .ok (.invokevirtual 160, 3) := by decide +kernel
theorem dX11_pace_9 : decode cX11_pace 9 = .ok (.ifCond .ne 5, 3) := by decide +kernel
theorem dX11_pace_12 : decode cX11_pace 12 = .ok (.iconst (-1), 1) := by decide +kernel
theorem dX11_pace_13 : decode cX11_pace 13 = .ok (.ireturn, 1) := by decide +kernel
theorem dX11_pace_14 : decode cX11_pace 14 = .ok (.iload_n 2, 1) := by decide +kernel
theorem dX11_pace_15 : decode cX11_pace 15 = .ok (.iconst (-1), 1) := by decide +kernel
theorem dX11_pace_16 : decode cX11_pace 16 = .ok (.if_icmp .ne 14, 3) := by decide +kernel
theorem dX11_pace_19 : decode cX11_pace 19 = .ok (.aload_n 0, 1) := by decide +kernel
theorem dX11_pace_20 : decode cX11_pace 20 = .ok (.getfield 29, 3) := by decide +kernel
theorem dX11_pace_23 : decode cX11_pace 23 = .ok (.iconst 3, 1) := by decide +kernel
theorem dX11_pace_24 : decode cX11_pace 24 = .ok (.iload_n 1, 1) := by decide +kernel
theorem dX11_pace_25 : decode cX11_pace 25 = .ok (.iconst 0, 1) := by decide +kernel
theorem dX11_pace_26 : decode cX11_pace 26 = .ok (.invokevirtual 176, 3) := by decide +kernel
theorem dX11_pace_29 : decode cX11_pace 29 = .ok (.ireturn, 1) := by decide +kernel
theorem dX11_pace_30 : decode cX11_pace 30 = .ok (.aload_n 0, 1) := by decide +kernel
theorem dX11_pace_31 : decode cX11_pace 31 = .ok (.getfield 29, 3) := by decide +kernel
theorem dX11_pace_34 : decode cX11_pace 34 = .ok (.iconst 0, 1) := by decide +kernel
theorem dX11_pace_35 : decode cX11_pace 35 = .ok (.iload_n 2, 1) := by decide +kernel
theorem dX11_pace_36 : decode cX11_pace 36 = .ok (.invokevirtual 160, 3) := by decide +kernel
theorem dX11_pace_39 : decode cX11_pace 39 = .ok (.ifCond .eq 18, 3) := by decide +kernel
theorem dX11_pace_42 : decode cX11_pace 42 = .ok (.aload_n 0, 1) := by decide +kernel
theorem dX11_pace_43 : decode cX11_pace 43 = .ok (.getfield 29, 3) := by decide +kernel
theorem dX11_pace_46 : decode cX11_pace 46 = .ok (.iconst 3, 1) := by decide +kernel
theorem dX11_pace_47 : decode cX11_pace 47 = .ok (.iload_n 1, 1) := by decide +kernel
theorem dX11_pace_48 : decode cX11_pace 48 = .ok (.iconst 1, 1) := by decide +kernel
theorem dX11_pace_49 : decode cX11_pace 49 = .ok (.iload_n 2, 1) := by decide +kernel
theorem dX11_pace_50 : decode cX11_pace 50 = .ok (.iadd, 1) := by decide +kernel
theorem dX11_pace_51 : decode cX11_pace 51 = .ok (.invokevirtual 176, 3) := by decide +kernel
theorem dX11_pace_54 : decode cX11_pace 54 = .ok (.goto 4, 3) := by decide +kernel
theorem dX11_pace_57 : decode cX11_pace 57 = .ok (.iconst (-1), 1) := by decide +kernel
theorem dX11_pace_58 : decode cX11_pace 58 = .ok (.ireturn, 1) := by decide +kernel
theorem dX11_law_0 : decode cX11_law 0 = .ok (.iload_n 1, 1) := by decide +kernel
theorem dX11_law_1 : decode cX11_law 1 = .ok (.ifCond .lt 40, 3) := by decide +kernel
theorem dX11_law_4 : decode cX11_law 4 = .ok (.iload_n 1, 1) := by decide +kernel
theorem dX11_law_5 : decode cX11_law 5 = .ok (.iconst 2, 1) := by decide +kernel
theorem dX11_law_6 : decode cX11_law 6 = .ok (.if_icmp .gt 35, 3) := by decide +kernel
theorem dX11_law_9 : decode cX11_law 9 = .ok (.aload_n 0, 1) := by decide +kernel
theorem dX11_law_10 : decode cX11_law 10 = .ok (.getfield 29, 3) := by decide +kernel
theorem dX11_law_13 : decode cX11_law 13 = .ok (.iconst 1, 1) := by decide +kernel
theorem dX11_law_14 : decode cX11_law 14 = .ok (.iload_n 2, 1) := by decide +kernel
theorem dX11_law_15 : decode cX11_law 15 = .ok (.invokevirtual 160, 3) := by decide +kernel
theorem dX11_law_18 : decode cX11_law 18 = .ok (.ifCond .eq 23, 3) := by decide +kernel
theorem dX11_law_21 : decode cX11_law 21 = .ok (.aload_n 0, 1) := by decide +kernel
theorem dX11_law_22 : decode cX11_law 22 = .ok (.getfield 29, 3) := by decide +kernel
theorem dX11_law_25 : decode cX11_law 25 = .ok (.iconst 0, 1) := by decide +kernel
theorem dX11_law_26 : decode cX11_law 26 = .ok (.iload_n 3, 1) := by decide +kernel
theorem dX11_law_27 : decode cX11_law 27 = .ok (.invokevirtual 160, 3) := by decide +kernel
theorem dX11_law_30 : decode cX11_law 30 = .ok (.ifCond .eq 11, 3) := by decide +kernel
theorem dX11_law_33 : decode cX11_law 33 = .ok (.iload 4, 2) := by decide +kernel
theorem dX11_law_35 : decode cX11_law 35 = .ok (.invokestatic 180, 3) := by decide +kernel
theorem dX11_law_38 : decode cX11_law 38 = .ok (.ifCond .ne 7, 3) := by decide +kernel
theorem dX11_law_41 : decode cX11_law 41 = .ok (.ldc2_w 184, 3) := by decide +kernel
theorem dX11_law_44 : decode cX11_law 44 = .ok (.lreturn, 1) := by decide +kernel
theorem dX11_law_45 : decode cX11_law 45 = .ok (.aload_n 0, 1) := by decide +kernel
theorem dX11_law_46 : decode cX11_law 46 = .ok (.iload_n 2, 1) := by decide +kernel
theorem dX11_law_47 : decode cX11_law 47 = .ok (.invokevirtual 186, 3) := by decide +kernel
theorem dX11_law_50 : decode cX11_law 50 = .ok (.aload_n 0, 1) := by decide +kernel
theorem dX11_law_51 : decode cX11_law 51 = .ok (.getfield 48, 3) := by decide +kernel
theorem dX11_law_54 : decode cX11_law 54 = .ok (.iload_n 3, 1) := by decide +kernel
theorem dX11_law_55 : decode cX11_law 55 = .ok (.iload 4, 2) := by decide +kernel
theorem dX11_law_57 : decode cX11_law 57 = .ok (.aload_n 0, 1) := by decide +kernel
theorem dX11_law_58 : decode cX11_law 58 = .ok (.getfield 29, 3) := by decide +kernel
theorem dX11_law_61 : decode cX11_law 61 = .ok (.iconst 1, 1) := by decide +kernel
theorem dX11_law_62 : decode cX11_law 62 = .ok (.iload_n 2, 1) := by decide +kernel
theorem dX11_law_63 : decode cX11_law 63 = .ok (.iconst 0, 1) := by decide +kernel
theorem dX11_law_64 : decode cX11_law 64 = .ok (.invokevirtual 176, 3) := by decide +kernel
theorem dX11_law_67 : decode cX11_law 67 = .ok (.aload_n 0, 1) := by decide +kernel
theorem dX11_law_68 : decode cX11_law 68 = .ok (.getfield 29, 3) := by decide +kernel
theorem dX11_law_71 : decode cX11_law 71 = .ok (.iconst 1, 1) := by decide +kernel
theorem dX11_law_72 : decode cX11_law 72 = .ok (.iload_n 2, 1) := by decide +kernel
theorem dX11_law_73 : decode cX11_law 73 = .ok (.iconst 1, 1) := by decide +kernel
theorem dX11_law_74 : decode cX11_law 74 = .ok (.invokevirtual 176, 3) := by decide +kernel
theorem dX11_law_77 : decode cX11_law 77 = .ok (.invokevirtual 189, 3) := by decide +kernel
theorem dX11_law_80 : decode cX11_law 80 = .ok (.aload_n 0, 1) := by decide +kernel
theorem dX11_law_81 : decode cX11_law 81 = .ok (.getfield 29, 3) := by decide +kernel
theorem dX11_law_84 : decode cX11_law 84 = .ok (.getfield 193, 3) := by decide +kernel
theorem dX11_law_87 : decode cX11_law 87 = .ok (.iload_n 1, 1) := by decide +kernel
theorem dX11_law_88 : decode cX11_law 88 = .ok (.invokevirtual 197, 3) := by decide +kernel
theorem dX11_law_91 : decode cX11_law 91 = .ok (.lreturn, 1) := by decide +kernel
theorem dX11_run_0 : decode cX11_run 0 = .ok (.aload_n 0, 1) := by decide +kernel
theorem dX11_run_1 : decode cX11_run 1 = .ok (.iload_n 1, 1) := by decide +kernel
theorem dX11_run_2 : decode cX11_run 2 = .ok (.iload_n 2, 1) := by decide +kernel
theorem dX11_run_3 : decode cX11_run 3 = .ok (.invokevirtual 203, 3) := by decide +kernel
theorem dX11_run_6 : decode cX11_run 6 = .ok (.ifCond .eq 12, 3) := by decide +kernel
theorem dX11_run_9 : decode cX11_run 9 = .ok (.iload_n 3, 1) := by decide +kernel
theorem dX11_run_10 : decode cX11_run 10 = .ok (.ifCond .lt 8, 3) := by decide +kernel
theorem dX11_run_13 : decode cX11_run 13 = .ok (.iload_n 3, 1) := by decide +kernel
theorem dX11_run_14 : decode cX11_run 14 = .ok (.iconst 3, 1) := by decide +kernel
theorem dX11_run_15 : decode cX11_run 15 = .ok (.if_icmp .le 5, 3) := by decide +kernel
theorem dX11_run_18 : decode cX11_run 18 = .ok (.iconst (-1), 1) := by decide +kernel
theorem dX11_run_19 : decode cX11_run 19 = .ok (.ireturn, 1) := by decide +kernel
theorem dX11_run_20 : decode cX11_run 20 = .ok (.aload_n 0, 1) := by decide +kernel
theorem dX11_run_21 : decode cX11_run 21 = .ok (.iload_n 1, 1) := by decide +kernel
theorem dX11_run_22 : decode cX11_run 22 = .ok (.iload_n 2, 1) := by decide +kernel
theorem dX11_run_23 : decode cX11_run 23 = .ok (.bipush 120, 2) := by decide +kernel
theorem dX11_run_25 : decode cX11_run 25 = .ok (.invokevirtual 206, 3) := by decide +kernel
theorem dX11_run_28 : decode cX11_run 28 = .ok (.iload_n 3, 1) := by decide +kernel
theorem dX11_run_29 : decode cX11_run 29 = .ok (.iconst 3, 1) := by decide +kernel
theorem dX11_run_30 : decode cX11_run 30 = .ok (.if_icmp .ne 13, 3) := by decide +kernel
theorem dX11_run_33 : decode cX11_run 33 = .ok (.aload_n 0, 1) := by decide +kernel
theorem dX11_run_34 : decode cX11_run 34 = .ok (.getfield 78, 3) := by decide +kernel
theorem dX11_run_37 : decode cX11_run 37 = .ok (.getfield 210, 3) := by decide +kernel
theorem dX11_run_40 : decode cX11_run 40 = .ok (.goto 8, 3) := by decide +kernel
theorem dX11_run_43 : decode cX11_run 43 = .ok (.aload_n 0, 1) := by decide +kernel
theorem dX11_run_44 : decode cX11_run 44 = .ok (.iload_n 3, 1) := by decide +kernel
theorem dX11_run_45 : decode cX11_run 45 = .ok (.invokevirtual 213, 3) := by decide +kernel
theorem dX11_run_48 : decode cX11_run 48 = .ok (.ireturn, 1) := by decide +kernel
theorem dX11_split_0 : decode cX11_split 0 = .ok (.aload_n 0, 1) := by decide +kernel
theorem dX11_split_1 : decode cX11_split 1 = .ok (.iload_n 1, 1) := by decide +kernel
theorem dX11_split_2 : decode cX11_split 2 = .ok (.iload_n 2, 1) := by decide +kernel
theorem dX11_split_3 : decode cX11_split 3 = .ok (.invokevirtual 203, 3) := by decide +kernel
theorem dX11_split_6 : decode cX11_split 6 = .ok (.ifCond .eq 15, 3) := by decide +kernel
theorem dX11_split_9 : decode cX11_split 9 = .ok (.aload_n 0, 1) := by decide +kernel
theorem dX11_split_10 : decode cX11_split 10 = .ok (.getfield 29, 3) := by decide +kernel
theorem dX11_split_13 : decode cX11_split 13 = .ok (.iconst 0, 1) := by decide +kernel
theorem dX11_split_14 : decode cX11_split 14 = .ok (.iload_n 3, 1) := by decide +kernel
theorem dX11_split_15 : decode cX11_split 15 = .ok (.invokevirtual 160, 3) := by decide +kernel
theorem dX11_split_18 : decode cX11_split 18 = .ok (.ifCond .ne 5, 3) := by decide +kernel
theorem dX11_split_21 : decode cX11_split 21 = .ok (.iconst (-1), 1) := by decide +kernel
theorem dX11_split_22 : decode cX11_split 22 = .ok (.ireturn, 1) := by decide +kernel
theorem dX11_split_23 : decode cX11_split 23 = .ok (.aload_n 0, 1) := by decide +kernel
theorem dX11_split_24 : decode cX11_split 24 = .ok (.iload_n 1, 1) := by decide +kernel
theorem dX11_split_25 : decode cX11_split 25 = .ok (.iload_n 2, 1) := by decide +kernel
theorem dX11_split_26 : decode cX11_split 26 = .ok (.aload_n 0, 1) := by decide +kernel
theorem dX11_split_27 : decode cX11_split 27 = .ok (.getfield 29, 3) := by decide +kernel
theorem dX11_split_30 : decode cX11_split 30 = .ok (.iload_n 3, 1) := by decide +kernel
theorem dX11_split_31 : decode cX11_split 31 = .ok (.iconst 1, 1) := by decide +kernel
theorem dX11_split_32 : decode cX11_split 32 = .ok (.iadd, 1) := by decide +kernel
theorem dX11_split_33 : decode cX11_split 33 = .ok (.invokevirtual 216, 3) := by decide +kernel
theorem dX11_split_36 : decode cX11_split 36 = .ok (.invokevirtual 206, 3) := by decide +kernel
theorem dX11_split_39 : decode cX11_split 39 = .ok (.aload_n 0, 1) := by decide +kernel
theorem dX11_split_40 : decode cX11_split 40 = .ok (.iconst 0, 1) := by decide +kernel
theorem dX11_split_41 : decode cX11_split 41 = .ok (.invokevirtual 213, 3) := by decide +kernel
theorem dX11_split_44 : decode cX11_split 44 = .ok (.ireturn, 1) := by decide +kernel
theorem dX11_race_0 : decode cX11_race 0 = .ok (.aload_n 0, 1) := by decide +kernel
theorem dX11_race_1 : decode cX11_race 1 = .ok (.iload_n 1, 1) := by decide +kernel
theorem dX11_race_2 : decode cX11_race 2 = .ok (.iload_n 2, 1) := by decide +kernel
theorem dX11_race_3 : decode cX11_race 3 = .ok (.invokevirtual 203, 3) := by decide +kernel
theorem dX11_race_6 : decode cX11_race 6 = .ok (.ifCond .ne 5, 3) := by decide +kernel
theorem dX11_race_9 : decode cX11_race 9 = .ok (.iconst 0, 1) := by decide +kernel
theorem dX11_race_10 : decode cX11_race 10 = .ok (.ireturn, 1) := by decide +kernel
theorem dX11_race_11 : decode cX11_race 11 = .ok (.aload_n 0, 1) := by decide +kernel
theorem dX11_race_12 : decode cX11_race 12 = .ok (.getfield 55, 3) := by decide +kernel
theorem dX11_race_15 : decode cX11_race 15 = .ok (.aload_n 0, 1) := by decide +kernel
theorem dX11_race_16 : decode cX11_race 16 = .ok (.getfield 29, 3) := by decide +kernel
theorem dX11_race_19 : decode cX11_race 19 = .ok (.iload_n 1, 1) := by decide +kernel
theorem dX11_race_20 : decode cX11_race 20 = .ok (.iload_n 2, 1) := by decide +kernel
theorem dX11_race_21 : decode cX11_race 21 = .ok (.invokevirtual 219, 3) := by decide +kernel
theorem dX11_race_24 : decode cX11_race 24 = .ok (.aload_n 0, 1) := by decide +kernel
theorem dX11_race_25 : decode cX11_race 25 = .ok (.iconst 0, 1) := by decide +kernel
theorem dX11_race_26 : decode cX11_race 26 = .ok (.putfield 63, 3) := by decide +kernel
theorem dX11_race_29 : decode cX11_race 29 = .ok (.iconst 1, 1) := by decide +kernel
theorem dX11_race_30 : decode cX11_race 30 = .ok (.ireturn, 1) := by decide +kernel
theorem dX11_go_0 : decode cX11_go 0 = .ok (.aload_n 0, 1) := by decide +kernel
theorem dX11_go_1 : decode cX11_go 1 = .ok (.getfield 55, 3) := by decide +kernel
theorem dX11_go_4 : decode cX11_go 4 = .ok (.getfield 122, 3) := by decide +kernel
theorem dX11_go_7 : decode cX11_go 7 = .ok (.ifCond .eq 13, 3) := by decide +kernel
theorem dX11_go_10 : decode cX11_go 10 = .ok (.iload_n 1, 1) := by decide +kernel
theorem dX11_go_11 : decode cX11_go 11 = .ok (.ifCond .lt 9, 3) := by decide +kernel
theorem dX11_go_14 : decode cX11_go 14 = .ok (.iload_n 1, 1) := by decide +kernel
theorem dX11_go_15 : decode cX11_go 15 = .ok (.bipush 120, 2) := by decide +kernel
theorem dX11_go_17 : decode cX11_go 17 = .ok (.if_icmp .le 5, 3) := by decide +kernel
theorem dX11_go_20 : decode cX11_go 20 = .ok (.iconst (-1), 1) := by decide +kernel
theorem dX11_go_21 : decode cX11_go 21 = .ok (.ireturn, 1) := by decide +kernel
theorem dX11_go_22 : decode cX11_go 22 = .ok (.aload_n 0, 1) := by decide +kernel
theorem dX11_go_23 : decode cX11_go 23 = .ok (.aload_n 0, 1) := by decide +kernel
theorem dX11_go_24 : decode cX11_go 24 = .ok (.getfield 55, 3) := by decide +kernel
theorem dX11_go_27 : decode cX11_go 27 = .ok (.getfield 223, 3) := by decide +kernel
theorem dX11_go_30 : decode cX11_go 30 = .ok (.invokevirtual 186, 3) := by decide +kernel
theorem dX11_go_33 : decode cX11_go 33 = .ok (.iconst 0, 1) := by decide +kernel
theorem dX11_go_34 : decode cX11_go 34 = .ok (.istore_n 2, 1) := by decide +kernel
theorem dX11_go_35 : decode cX11_go 35 = .ok (.iload_n 2, 1) := by decide +kernel
theorem dX11_go_36 : decode cX11_go 36 = .ok (.iload_n 1, 1) := by decide +kernel
theorem dX11_go_37 : decode cX11_go 37 = .ok (.if_icmp .ge 39, 3) := by decide +kernel
theorem dX11_go_40 : decode cX11_go 40 = .ok (.aload_n 0, 1) := by decide +kernel
theorem dX11_go_41 : decode cX11_go 41 = .ok (.getfield 55, 3) := by decide +kernel
theorem dX11_go_44 : decode cX11_go 44 = .ok (.aload_n 0, 1) := by decide +kernel
theorem dX11_go_45 : decode cX11_go 45 = .ok (.getfield 29, 3) := by decide +kernel
theorem dX11_go_48 : decode cX11_go 48 = .ok (.invokevirtual 226, 3) := by decide +kernel
theorem dX11_go_51 : decode cX11_go 51 = .ok (.ifCond .eq 25, 3) := by decide +kernel
theorem dX11_go_54 : decode cX11_go 54 = .ok (.aload_n 0, 1) := by decide +kernel
theorem dX11_go_55 : decode cX11_go 55 = .ok (.invokevirtual 230, 3) := by decide +kernel
theorem dX11_go_58 : decode cX11_go 58 = .ok (.aload_n 0, 1) := by decide +kernel
theorem dX11_go_59 : decode cX11_go 59 = .ok (.getfield 55, 3) := by decide +kernel
theorem dX11_go_62 : decode cX11_go 62 = .ok (.aload_n 0, 1) := by decide +kernel
theorem dX11_go_63 : decode cX11_go 63 = .ok (.getfield 48, 3) := by decide +kernel
theorem dX11_go_66 : decode cX11_go 66 = .ok (.iconst 1, 1) := by decide +kernel
theorem dX11_go_67 : decode cX11_go 67 = .ok (.invokevirtual 233, 3) := by decide +kernel
theorem dX11_go_70 : decode cX11_go 70 = .ok (.iinc 2 1, 3) := by decide +kernel
theorem dX11_go_73 : decode cX11_go 73 = .ok (.goto (-38), 3) := by decide +kernel
theorem dX11_go_76 : decode cX11_go 76 = .ok (.iload_n 2, 1) := by decide +kernel
theorem dX11_go_77 : decode cX11_go 77 = .ok (.ireturn, 1) := by decide +kernel
theorem dX11_remember_0 : decode cX11_remember 0 = .ok (.aload_n 0, 1) := by decide +kernel
theorem dX11_remember_1 : decode cX11_remember 1 = .ok (.getfield 63, 3) := by decide +kernel
theorem dX11_remember_4 : decode cX11_remember 4 = .ok (.bipush 20, 2) := by decide +kernel
theorem dX11_remember_6 : decode cX11_remember 6 = .ok (.if_icmp .lt 52, 3) := by decide +kernel
theorem dX11_remember_9 : decode cX11_remember 9 = .ok (.aload_n 0, 1) := by decide +kernel
theorem dX11_remember_10 : decode cX11_remember 10 = .ok (.getfield 59, 3) := by decide +kernel
theorem dX11_remember_13 : decode cX11_remember 13 = .ok (.iconst 0, 1) := by decide +kernel
theorem dX11_remember_14 : decode cX11_remember 14 = .ok (.aaload, 1) := by decide +kernel
theorem dX11_remember_15 : decode cX11_remember 15 = .ok (.astore_n 1, 1) := by decide +kernel
theorem dX11_remember_16 : decode cX11_remember 16 = .ok (.iconst 1, 1) := by decide +kernel
theorem dX11_remember_17 : decode cX11_remember 17 = .ok (.istore_n 2, 1) := by decide +kernel
theorem dX11_remember_18 : decode cX11_remember 18 = .ok (.iload_n 2, 1) := by decide +kernel
theorem dX11_remember_19 : decode cX11_remember 19 = .ok (.bipush 20, 2) := by decide +kernel
theorem dX11_remember_21 : decode cX11_remember 21 = .ok (.if_icmp .ge 23, 3) := by decide +kernel
theorem dX11_remember_24 : decode cX11_remember 24 = .ok (.aload_n 0, 1) := by decide +kernel
theorem dX11_remember_25 : decode cX11_remember 25 = .ok (.getfield 59, 3) := by decide +kernel
theorem dX11_remember_28 : decode cX11_remember 28 = .ok (.iload_n 2, 1) := by decide +kernel
theorem dX11_remember_29 : decode cX11_remember 29 = .ok (.iconst 1, 1) := by decide +kernel
theorem dX11_remember_30 : decode cX11_remember 30 = .ok (.isub, 1) := by decide +kernel
theorem dX11_remember_31 : decode cX11_remember 31 = .ok (.aload_n 0, 1) := by decide +kernel
theorem dX11_remember_32 : decode cX11_remember 32 = .ok (.getfield 59, 3) := by decide +kernel
theorem dX11_remember_35 : decode cX11_remember 35 = .ok (.iload_n 2, 1) := by decide +kernel
theorem dX11_remember_36 : decode cX11_remember 36 = .ok (.aaload, 1) := by decide +kernel
theorem dX11_remember_37 : decode cX11_remember 37 = .ok (.aastore, 1) := by decide +kernel
theorem dX11_remember_38 : decode cX11_remember 38 = .ok (.iinc 2 1, 3) := by decide +kernel
theorem dX11_remember_41 : decode cX11_remember 41 = .ok (.goto (-23), 3) := by decide +kernel
theorem dX11_remember_44 : decode cX11_remember 44 = .ok (.aload_n 0, 1) := by decide +kernel
theorem dX11_remember_45 : decode cX11_remember 45 = .ok (.getfield 59, 3) := by decide +kernel
theorem dX11_remember_48 : decode cX11_remember 48 = .ok (.bipush 19, 2) := by decide +kernel
theorem dX11_remember_50 : decode cX11_remember 50 = .ok (.aload_n 1, 1) := by decide +kernel
theorem dX11_remember_51 : decode cX11_remember 51 = .ok (.aastore, 1) := by decide +kernel
theorem dX11_remember_52 : decode cX11_remember 52 = .ok (.aload_n 0, 1) := by decide +kernel
theorem dX11_remember_53 : decode cX11_remember 53 = .ok (.bipush 19, 2) := by decide +kernel
theorem dX11_remember_55 : decode cX11_remember 55 = .ok (.putfield 63, 3) := by decide +kernel
theorem dX11_remember_58 : decode cX11_remember 58 = .ok (.aload_n 0, 1) := by decide +kernel
theorem dX11_remember_59 : decode cX11_remember 59 = .ok (.getfield 63, 3) := by decide +kernel
theorem dX11_remember_62 : decode cX11_remember 62 = .ok (.ifCond .lt 29, 3) := by decide +kernel
theorem dX11_remember_65 : decode cX11_remember 65 = .ok (.aload_n 0, 1) := by decide +kernel
theorem dX11_remember_66 : decode cX11_remember 66 = .ok (.getfield 59, 3) := by decide +kernel
theorem dX11_remember_69 : decode cX11_remember 69 = .ok (.aload_n 0, 1) := by decide +kernel
theorem dX11_remember_70 : decode cX11_remember 70 = .ok (.getfield 63, 3) := by decide +kernel
theorem dX11_remember_73 : decode cX11_remember 73 = .ok (.aaload, 1) := by decide +kernel
theorem dX11_remember_74 : decode cX11_remember 74 = .ok (.aload_n 0, 1) := by decide +kernel
theorem dX11_remember_75 : decode cX11_remember 75 = .ok (.getfield 55, 3) := by decide +kernel
theorem dX11_remember_78 : decode cX11_remember 78 = .ok (.invokevirtual 237, 3) := by decide +kernel
theorem dX11_remember_81 : decode cX11_remember 81 = .ok (.aload_n 0, 1) := by decide +kernel
theorem dX11_remember_82 : decode cX11_remember 82 = .ok (.dup, 1) := by decide +kernel
theorem dX11_remember_83 : decode cX11_remember 83 = .ok (.getfield 63, 3) := by decide +kernel
theorem dX11_remember_86 : decode cX11_remember 86 = .ok (.iconst 1, 1) := by decide +kernel
theorem dX11_remember_87 : decode cX11_remember 87 = .ok (.iadd, 1) := by decide +kernel
theorem dX11_remember_88 : decode cX11_remember 88 = .ok (.putfield 63, 3) := by decide +kernel
theorem dX11_remember_91 : decode cX11_remember 91 = .ok (.return_, 1) := by decide +kernel
theorem dX11_now_0 : decode cX11_now 0 = .ok (.aload_n 0, 1) := by decide +kernel
theorem dX11_now_1 : decode cX11_now 1 = .ok (.getfield 55, 3) := by decide +kernel
theorem dX11_now_4 : decode cX11_now 4 = .ok (.getfield 122, 3) := by decide +kernel
theorem dX11_now_7 : decode cX11_now 7 = .ok (.ifCond .ne 5, 3) := by decide +kernel
theorem dX11_now_10 : decode cX11_now 10 = .ok (.iconst (-1), 1) := by decide +kernel
theorem dX11_now_11 : decode cX11_now 11 = .ok (.ireturn, 1) := by decide +kernel
theorem dX11_now_12 : decode cX11_now 12 = .ok (.iload_n 1, 1) := by decide +kernel
theorem dX11_now_13 : decode cX11_now 13 = .ok (.tableswitch 159 0 7 #[47, 55, 63, 71, 79, 87, 121, 151], 47) := by decide +kernel
theorem dX11_now_60 : decode cX11_now 60 = .ok (.aload_n 0, 1) := by decide +kernel
theorem dX11_now_61 : decode cX11_now 61 = .ok (.getfield 55, 3) := by decide +kernel
theorem dX11_now_64 : decode cX11_now 64 = .ok (.getfield 210, 3) := by decide +kernel
theorem dX11_now_67 : decode cX11_now 67 = .ok (.ireturn, 1) := by decide +kernel
theorem dX11_now_68 : decode cX11_now 68 = .ok (.aload_n 0, 1) := by decide +kernel
theorem dX11_now_69 : decode cX11_now 69 = .ok (.getfield 55, 3) := by decide +kernel
theorem dX11_now_72 : decode cX11_now 72 = .ok (.getfield 241, 3) := by decide +kernel
theorem dX11_now_75 : decode cX11_now 75 = .ok (.ireturn, 1) := by decide +kernel
theorem dX11_now_76 : decode cX11_now 76 = .ok (.aload_n 0, 1) := by decide +kernel
theorem dX11_now_77 : decode cX11_now 77 = .ok (.getfield 55, 3) := by decide +kernel
theorem dX11_now_80 : decode cX11_now 80 = .ok (.getfield 244, 3) := by decide +kernel
theorem dX11_now_83 : decode cX11_now 83 = .ok (.ireturn, 1) := by decide +kernel
theorem dX11_now_84 : decode cX11_now 84 = .ok (.aload_n 0, 1) := by decide +kernel
theorem dX11_now_85 : decode cX11_now 85 = .ok (.getfield 55, 3) := by decide +kernel
theorem dX11_now_88 : decode cX11_now 88 = .ok (.getfield 247, 3) := by decide +kernel
theorem dX11_now_91 : decode cX11_now 91 = .ok (.ireturn, 1) := by decide +kernel
theorem dX11_now_92 : decode cX11_now 92 = .ok (.aload_n 0, 1) := by decide +kernel
theorem dX11_now_93 : decode cX11_now 93 = .ok (.getfield 55, 3) := by decide +kernel
theorem dX11_now_96 : decode cX11_now 96 = .ok (.getfield 250, 3) := by decide +kernel
theorem dX11_now_99 : decode cX11_now 99 = .ok (.ireturn, 1) := by decide +kernel
theorem dX11_now_100 : decode cX11_now 100 = .ok (.aload_n 0, 1) := by decide +kernel
theorem dX11_now_101 : decode cX11_now 101 = .ok (.getfield 55, 3) := by decide +kernel
theorem dX11_now_104 : decode cX11_now 104 = .ok (.aload_n 0, 1) := by decide +kernel
theorem dX11_now_105 : decode cX11_now 105 = .ok (.getfield 29, 3) := by decide +kernel
theorem dX11_now_108 : decode cX11_now 108 = .ok (.invokevirtual 226, 3) := by decide +kernel
theorem dX11_now_111 : decode cX11_now 111 = .ok (.ifCond .eq 7, 3) := by decide +kernel
theorem dX11_now_114 : decode cX11_now 114 = .ok (.iconst 0, 1) := by decide +kernel
theorem dX11_now_115 : decode cX11_now 115 = .ok (.goto 18, 3) := by decide +kernel
theorem dX11_now_118 : decode cX11_now 118 = .ok (.aload_n 0, 1) := by decide +kernel
theorem dX11_now_119 : decode cX11_now 119 = .ok (.getfield 55, 3) := by decide +kernel
theorem dX11_now_122 : decode cX11_now 122 = .ok (.invokevirtual 253, 3) := by decide +kernel
theorem dX11_now_125 : decode cX11_now 125 = .ok (.ifCond .eq 7, 3) := by decide +kernel
theorem dX11_now_128 : decode cX11_now 128 = .ok (.iconst 2, 1) := by decide +kernel
theorem dX11_now_129 : decode cX11_now 129 = .ok (.goto 4, 3) := by decide +kernel
theorem dX11_now_132 : decode cX11_now 132 = .ok (.iconst 1, 1) := by decide +kernel
theorem dX11_now_133 : decode cX11_now 133 = .ok (.ireturn, 1) := by decide +kernel
theorem dX11_now_134 : decode cX11_now 134 = .ok (.aload_n 0, 1) := by decide +kernel
theorem dX11_now_135 : decode cX11_now 135 = .ok (.getfield 55, 3) := by decide +kernel
theorem dX11_now_138 : decode cX11_now 138 = .ok (.aload_n 0, 1) := by decide +kernel
theorem dX11_now_139 : decode cX11_now 139 = .ok (.getfield 29, 3) := by decide +kernel
theorem dX11_now_142 : decode cX11_now 142 = .ok (.invokevirtual 226, 3) := by decide +kernel
theorem dX11_now_145 : decode cX11_now 145 = .ok (.ifCond .eq 17, 3) := by decide +kernel
theorem dX11_now_148 : decode cX11_now 148 = .ok (.aload_n 0, 1) := by decide +kernel
theorem dX11_now_149 : decode cX11_now 149 = .ok (.getfield 55, 3) := by decide +kernel
theorem dX11_now_152 : decode cX11_now 152 = .ok (.aload_n 0, 1) := by decide +kernel
theorem dX11_now_153 : decode cX11_now 153 = .ok (.getfield 29, 3) := by decide +kernel
theorem dX11_now_156 : decode cX11_now 156 = .ok (.invokevirtual 257, 3) := by decide +kernel
theorem dX11_now_159 : decode cX11_now 159 = .ok (.goto 4, 3) := by decide +kernel
theorem dX11_now_162 : decode cX11_now 162 = .ok (.iconst 0, 1) := by decide +kernel
theorem dX11_now_163 : decode cX11_now 163 = .ok (.ireturn, 1) := by decide +kernel
theorem dX11_now_164 : decode cX11_now 164 = .ok (.aload_n 0, 1) := by decide +kernel
theorem dX11_now_165 : decode cX11_now 165 = .ok (.getfield 55, 3) := by decide +kernel
theorem dX11_now_168 : decode cX11_now 168 = .ok (.getfield 261, 3) := by decide +kernel
theorem dX11_now_171 : decode cX11_now 171 = .ok (.ireturn, 1) := by decide +kernel
theorem dX11_now_172 : decode cX11_now 172 = .ok (.iconst (-1), 1) := by decide +kernel
theorem dX11_now_173 : decode cX11_now 173 = .ok (.ireturn, 1) := by decide +kernel
theorem dX11_paced_0 : decode cX11_paced 0 = .ok (.aload_n 0, 1) := by decide +kernel
theorem dX11_paced_1 : decode cX11_paced 1 = .ok (.getfield 55, 3) := by decide +kernel
theorem dX11_paced_4 : decode cX11_paced 4 = .ok (.aload_n 0, 1) := by decide +kernel
theorem dX11_paced_5 : decode cX11_paced 5 = .ok (.getfield 29, 3) := by decide +kernel
theorem dX11_paced_8 : decode cX11_paced 8 = .ok (.invokevirtual 226, 3) := by decide +kernel
theorem dX11_paced_11 : decode cX11_paced 11 = .ok (.ifCond .eq 14, 3) := by decide +kernel
theorem dX11_paced_14 : decode cX11_paced 14 = .ok (.iload_n 1, 1) := by decide +kernel
theorem dX11_paced_15 : decode cX11_paced 15 = .ok (.ifCond .eq 12, 3) := by decide +kernel
theorem dX11_paced_18 : decode cX11_paced 18 = .ok (.iload_n 1, 1) := by decide +kernel
theorem dX11_paced_19 : decode cX11_paced 19 = .ok (.invokestatic 180, 3) := by decide +kernel
theorem dX11_paced_22 : decode cX11_paced 22 = .ok (.ifCond .ne 5, 3) := by decide +kernel
theorem dX11_paced_25 : decode cX11_paced 25 = .ok (.iconst 0, 1) := by decide +kernel
theorem dX11_paced_26 : decode cX11_paced 26 = .ok (.ireturn, 1) := by decide +kernel
theorem dX11_paced_27 : decode cX11_paced 27 = .ok (.aload_n 0, 1) := by decide +kernel
theorem dX11_paced_28 : decode cX11_paced 28 = .ok (.getfield 55, 3) := by decide +kernel
theorem dX11_paced_31 : decode cX11_paced 31 = .ok (.iload_n 1, 1) := by decide +kernel
theorem dX11_paced_32 : decode cX11_paced 32 = .ok (.putfield 264, 3) := by decide +kernel
theorem dX11_paced_35 : decode cX11_paced 35 = .ok (.iconst 1, 1) := by decide +kernel
theorem dX11_paced_36 : decode cX11_paced 36 = .ok (.ireturn, 1) := by decide +kernel
theorem dX11_shift_0 : decode cX11_shift 0 = .ok (.aload_n 0, 1) := by decide +kernel
theorem dX11_shift_1 : decode cX11_shift 1 = .ok (.getfield 55, 3) := by decide +kernel
theorem dX11_shift_4 : decode cX11_shift 4 = .ok (.aload_n 0, 1) := by decide +kernel
theorem dX11_shift_5 : decode cX11_shift 5 = .ok (.getfield 29, 3) := by decide +kernel
theorem dX11_shift_8 : decode cX11_shift 8 = .ok (.invokevirtual 226, 3) := by decide +kernel
theorem dX11_shift_11 : decode cX11_shift 11 = .ok (.ifCond .eq 26, 3) := by decide +kernel
theorem dX11_shift_14 : decode cX11_shift 14 = .ok (.aload_n 0, 1) := by decide +kernel
theorem dX11_shift_15 : decode cX11_shift 15 = .ok (.getfield 29, 3) := by decide +kernel
theorem dX11_shift_18 : decode cX11_shift 18 = .ok (.iconst 2, 1) := by decide +kernel
theorem dX11_shift_19 : decode cX11_shift 19 = .ok (.iload_n 1, 1) := by decide +kernel
theorem dX11_shift_20 : decode cX11_shift 20 = .ok (.invokevirtual 160, 3) := by decide +kernel
theorem dX11_shift_23 : decode cX11_shift 23 = .ok (.ifCond .eq 14, 3) := by decide +kernel
theorem dX11_shift_26 : decode cX11_shift 26 = .ok (.iload_n 1, 1) := by decide +kernel
theorem dX11_shift_27 : decode cX11_shift 27 = .ok (.aload_n 0, 1) := by decide +kernel
theorem dX11_shift_28 : decode cX11_shift 28 = .ok (.getfield 55, 3) := by decide +kernel
theorem dX11_shift_31 : decode cX11_shift 31 = .ok (.getfield 261, 3) := by decide +kernel
theorem dX11_shift_34 : decode cX11_shift 34 = .ok (.if_icmp .ne 5, 3) := by decide +kernel
theorem dX11_shift_37 : decode cX11_shift 37 = .ok (.iconst (-1), 1) := by decide +kernel
theorem dX11_shift_38 : decode cX11_shift 38 = .ok (.ireturn, 1) := by decide +kernel
theorem dX11_shift_39 : decode cX11_shift 39 = .ok (.aload_n 0, 1) := by decide +kernel
theorem dX11_shift_40 : decode cX11_shift 40 = .ok (.getfield 29, 3) := by decide +kernel
theorem dX11_shift_43 : decode cX11_shift 43 = .ok (.iconst 2, 1) := by decide +kernel
theorem dX11_shift_44 : decode cX11_shift 44 = .ok (.iload_n 1, 1) := by decide +kernel
theorem dX11_shift_45 : decode cX11_shift 45 = .ok (.iconst 2, 1) := by decide +kernel
theorem dX11_shift_46 : decode cX11_shift 46 = .ok (.invokevirtual 176, 3) := by decide +kernel
theorem dX11_shift_49 : decode cX11_shift 49 = .ok (.istore_n 2, 1) := by decide +kernel
theorem dX11_shift_50 : decode cX11_shift 50 = .ok (.aload_n 0, 1) := by decide +kernel
theorem dX11_shift_51 : decode cX11_shift 51 = .ok (.getfield 55, 3) := by decide +kernel
theorem dX11_shift_54 : decode cX11_shift 54 = .ok (.aload_n 0, 1) := by decide +kernel
theorem dX11_shift_55 : decode cX11_shift 55 = .ok (.getfield 29, 3) := by decide +kernel
theorem dX11_shift_58 : decode cX11_shift 58 = .ok (.iload_n 1, 1) := by decide +kernel
theorem dX11_shift_59 : decode cX11_shift 59 = .ok (.invokevirtual 267, 3) := by decide +kernel
theorem dX11_shift_62 : decode cX11_shift 62 = .ok (.aload_n 0, 1) := by decide +kernel
theorem dX11_shift_63 : decode cX11_shift 63 = .ok (.getfield 55, 3) := by decide +kernel
theorem dX11_shift_66 : decode cX11_shift 66 = .ok (.dup, 1) := by decide +kernel
theorem dX11_shift_67 : decode cX11_shift 67 = .ok (.getfield 241, 3) := by decide +kernel
theorem dX11_shift_70 : decode cX11_shift 70 = .ok (.iload_n 2, 1) := by decide +kernel
theorem dX11_shift_71 : decode cX11_shift 71 = .ok (.iadd, 1) := by decide +kernel
theorem dX11_shift_72 : decode cX11_shift 72 = .ok (.putfield 241, 3) := by decide +kernel
theorem dX11_shift_75 : decode cX11_shift 75 = .ok (.iload_n 2, 1) := by decide +kernel
theorem dX11_shift_76 : decode cX11_shift 76 = .ok (.ireturn, 1) := by decide +kernel
theorem dX11_undo_0 : decode cX11_undo 0 = .ok (.aload_n 0, 1) := by decide +kernel
theorem dX11_undo_1 : decode cX11_undo 1 = .ok (.getfield 63, 3) := by decide +kernel
theorem dX11_undo_4 : decode cX11_undo 4 = .ok (.ifCond .le 12, 3) := by decide +kernel
theorem dX11_undo_7 : decode cX11_undo 7 = .ok (.aload_n 0, 1) := by decide +kernel
theorem dX11_undo_8 : decode cX11_undo 8 = .ok (.getfield 63, 3) := by decide +kernel
theorem dX11_undo_11 : decode cX11_undo 11 = .ok (.bipush 20, 2) := by decide +kernel
theorem dX11_undo_13 : decode cX11_undo 13 = .ok (.if_icmp .le 5, 3) := by decide +kernel
theorem dX11_undo_16 : decode cX11_undo 16 = .ok (.iconst (-1), 1) := by decide +kernel
theorem dX11_undo_17 : decode cX11_undo 17 = .ok (.ireturn, 1) := by decide +kernel
theorem dX11_undo_18 : decode cX11_undo 18 = .ok (.aload_n 0, 1) := by decide +kernel
theorem dX11_undo_19 : decode cX11_undo 19 = .ok (.dup, 1) := by decide +kernel
theorem dX11_undo_20 : decode cX11_undo 20 = .ok (.getfield 63, 3) := by decide +kernel
theorem dX11_undo_23 : decode cX11_undo 23 = .ok (.iconst 1, 1) := by decide +kernel
theorem dX11_undo_24 : decode cX11_undo 24 = .ok (.isub, 1) := by decide +kernel
theorem dX11_undo_25 : decode cX11_undo 25 = .ok (.putfield 63, 3) := by decide +kernel
theorem dX11_undo_28 : decode cX11_undo 28 = .ok (.aload_n 0, 1) := by decide +kernel
theorem dX11_undo_29 : decode cX11_undo 29 = .ok (.getfield 55, 3) := by decide +kernel
theorem dX11_undo_32 : decode cX11_undo 32 = .ok (.aload_n 0, 1) := by decide +kernel
theorem dX11_undo_33 : decode cX11_undo 33 = .ok (.getfield 59, 3) := by decide +kernel
theorem dX11_undo_36 : decode cX11_undo 36 = .ok (.aload_n 0, 1) := by decide +kernel
theorem dX11_undo_37 : decode cX11_undo 37 = .ok (.getfield 63, 3) := by decide +kernel
theorem dX11_undo_40 : decode cX11_undo 40 = .ok (.aaload, 1) := by decide +kernel
theorem dX11_undo_41 : decode cX11_undo 41 = .ok (.invokevirtual 237, 3) := by decide +kernel
theorem dX11_undo_44 : decode cX11_undo 44 = .ok (.aload_n 0, 1) := by decide +kernel
theorem dX11_undo_45 : decode cX11_undo 45 = .ok (.getfield 63, 3) := by decide +kernel
theorem dX11_undo_48 : decode cX11_undo 48 = .ok (.ireturn, 1) := by decide +kernel
theorem dX11_sack_0 : decode cX11_sack 0 = .ok (.iload_n 1, 1) := by decide +kernel
theorem dX11_sack_1 : decode cX11_sack 1 = .ok (.ifCond .lt 9, 3) := by decide +kernel
theorem dX11_sack_4 : decode cX11_sack 4 = .ok (.iload_n 1, 1) := by decide +kernel
theorem dX11_sack_5 : decode cX11_sack 5 = .ok (.bipush 30, 2) := by decide +kernel
theorem dX11_sack_7 : decode cX11_sack 7 = .ok (.if_icmp .le 5, 3) := by decide +kernel
theorem dX11_sack_10 : decode cX11_sack 10 = .ok (.iconst 0, 1) := by decide +kernel
theorem dX11_sack_11 : decode cX11_sack 11 = .ok (.ireturn, 1) := by decide +kernel
theorem dX11_sack_12 : decode cX11_sack 12 = .ok (.aload_n 0, 1) := by decide +kernel
theorem dX11_sack_13 : decode cX11_sack 13 = .ok (.iload_n 1, 1) := by decide +kernel
theorem dX11_sack_14 : decode cX11_sack 14 = .ok (.putfield 36, 3) := by decide +kernel
theorem dX11_sack_17 : decode cX11_sack 17 = .ok (.iconst 1, 1) := by decide +kernel
theorem dX11_sack_18 : decode cX11_sack 18 = .ok (.ireturn, 1) := by decide +kernel
theorem dX11_rain_0 : decode cX11_rain 0 = .ok (.aload_n 0, 1) := by decide +kernel
theorem dX11_rain_1 : decode cX11_rain 1 = .ok (.iload_n 1, 1) := by decide +kernel
theorem dX11_rain_2 : decode cX11_rain 2 = .ok (.putfield 39, 3) := by decide +kernel
theorem dX11_rain_5 : decode cX11_rain 5 = .ok (.iconst 0, 1) := by decide +kernel
theorem dX11_rain_6 : decode cX11_rain 6 = .ok (.istore_n 2, 1) := by decide +kernel
theorem dX11_rain_7 : decode cX11_rain 7 = .ok (.iconst 0, 1) := by decide +kernel
theorem dX11_rain_8 : decode cX11_rain 8 = .ok (.istore_n 3, 1) := by decide +kernel
theorem dX11_rain_9 : decode cX11_rain 9 = .ok (.iload_n 3, 1) := by decide +kernel
theorem dX11_rain_10 : decode cX11_rain 10 = .ok (.aload_n 0, 1) := by decide +kernel
theorem dX11_rain_11 : decode cX11_rain 11 = .ok (.getfield 29, 3) := by decide +kernel
theorem dX11_rain_14 : decode cX11_rain 14 = .ok (.iconst 0, 1) := by decide +kernel
theorem dX11_rain_15 : decode cX11_rain 15 = .ok (.invokevirtual 271, 3) := by decide +kernel
theorem dX11_rain_18 : decode cX11_rain 18 = .ok (.if_icmp .ge 33, 3) := by decide +kernel
theorem dX11_rain_21 : decode cX11_rain 21 = .ok (.iload_n 2, 1) := by decide +kernel
theorem dX11_rain_22 : decode cX11_rain 22 = .ok (.aload_n 0, 1) := by decide +kernel
theorem dX11_rain_23 : decode cX11_rain 23 = .ok (.getfield 39, 3) := by decide +kernel
theorem dX11_rain_26 : decode cX11_rain 26 = .ok (.ifCond .eq 7, 3) := by decide +kernel
theorem dX11_rain_29 : decode cX11_rain 29 = .ok (.iconst 1, 1) := by decide +kernel
theorem dX11_rain_30 : decode cX11_rain 30 = .ok (.goto 13, 3) := by decide +kernel
theorem dX11_rain_33 : decode cX11_rain 33 = .ok (.aload_n 0, 1) := by decide +kernel
theorem dX11_rain_34 : decode cX11_rain 34 = .ok (.getfield 29, 3) := by decide +kernel
theorem dX11_rain_37 : decode cX11_rain 37 = .ok (.iconst 0, 1) := by decide +kernel
theorem dX11_rain_38 : decode cX11_rain 38 = .ok (.iload_n 3, 1) := by decide +kernel
theorem dX11_rain_39 : decode cX11_rain 39 = .ok (.iconst 3, 1) := by decide +kernel
theorem dX11_rain_40 : decode cX11_rain 40 = .ok (.invokevirtual 176, 3) := by decide +kernel
theorem dX11_rain_43 : decode cX11_rain 43 = .ok (.iadd, 1) := by decide +kernel
theorem dX11_rain_44 : decode cX11_rain 44 = .ok (.istore_n 2, 1) := by decide +kernel
theorem dX11_rain_45 : decode cX11_rain 45 = .ok (.iinc 3 1, 3) := by decide +kernel
theorem dX11_rain_48 : decode cX11_rain 48 = .ok (.goto (-39), 3) := by decide +kernel
theorem dX11_rain_51 : decode cX11_rain 51 = .ok (.iload_n 2, 1) := by decide +kernel
theorem dX11_rain_52 : decode cX11_rain 52 = .ok (.ireturn, 1) := by decide +kernel
theorem dX11_best_0 : decode cX11_best 0 = .ok (.aload_n 0, 1) := by decide +kernel
theorem dX11_best_1 : decode cX11_best 1 = .ok (.iload_n 1, 1) := by decide +kernel
theorem dX11_best_2 : decode cX11_best 2 = .ok (.iload_n 2, 1) := by decide +kernel
theorem dX11_best_3 : decode cX11_best 3 = .ok (.invokevirtual 274, 3) := by decide +kernel
theorem dX11_best_6 : decode cX11_best 6 = .ok (.ifCond .ne 5, 3) := by decide +kernel
theorem dX11_best_9 : decode cX11_best 9 = .ok (.iconst (-1), 1) := by decide +kernel
theorem dX11_best_10 : decode cX11_best 10 = .ok (.ireturn, 1) := by decide +kernel
theorem dX11_best_11 : decode cX11_best 11 = .ok (.aload_n 0, 1) := by decide +kernel
theorem dX11_best_12 : decode cX11_best 12 = .ok (.iload_n 1, 1) := by decide +kernel
theorem dX11_best_13 : decode cX11_best 13 = .ok (.invokevirtual 186, 3) := by decide +kernel
theorem dX11_best_16 : decode cX11_best 16 = .ok (.aload_n 0, 1) := by decide +kernel
theorem dX11_best_17 : decode cX11_best 17 = .ok (.getfield 86, 3) := by decide +kernel
theorem dX11_best_20 : decode cX11_best 20 = .ok (.iload_n 1, 1) := by decide +kernel
theorem dX11_best_21 : decode cX11_best 21 = .ok (.iload_n 2, 1) := by decide +kernel
theorem dX11_best_22 : decode cX11_best 22 = .ok (.iconst 0, 1) := by decide +kernel
theorem dX11_best_23 : decode cX11_best 23 = .ok (.invokevirtual 277, 3) := by decide +kernel
theorem dX11_best_26 : decode cX11_best 26 = .ok (.ireturn, 1) := by decide +kernel
theorem dX11_paces_0 : decode cX11_paces 0 = .ok (.aload_n 0, 1) := by decide +kernel
theorem dX11_paces_1 : decode cX11_paces 1 = .ok (.iload_n 1, 1) := by decide +kernel
theorem dX11_paces_2 : decode cX11_paces 2 = .ok (.iload_n 2, 1) := by decide +kernel
theorem dX11_paces_3 : decode cX11_paces 3 = .ok (.invokevirtual 274, 3) := by decide +kernel
theorem dX11_paces_6 : decode cX11_paces 6 = .ok (.ifCond .eq 15, 3) := by decide +kernel
theorem dX11_paces_9 : decode cX11_paces 9 = .ok (.aload_n 0, 1) := by decide +kernel
theorem dX11_paces_10 : decode cX11_paces 10 = .ok (.getfield 29, 3) := by decide +kernel
theorem dX11_paces_13 : decode cX11_paces 13 = .ok (.iconst 0, 1) := by decide +kernel
theorem dX11_paces_14 : decode cX11_paces 14 = .ok (.iload_n 3, 1) := by decide +kernel
theorem dX11_paces_15 : decode cX11_paces 15 = .ok (.invokevirtual 160, 3) := by decide +kernel
theorem dX11_paces_18 : decode cX11_paces 18 = .ok (.ifCond .ne 5, 3) := by decide +kernel
theorem dX11_paces_21 : decode cX11_paces 21 = .ok (.iconst (-1), 1) := by decide +kernel
theorem dX11_paces_22 : decode cX11_paces 22 = .ok (.ireturn, 1) := by decide +kernel
theorem dX11_paces_23 : decode cX11_paces 23 = .ok (.aload_n 0, 1) := by decide +kernel
theorem dX11_paces_24 : decode cX11_paces 24 = .ok (.iload_n 1, 1) := by decide +kernel
theorem dX11_paces_25 : decode cX11_paces 25 = .ok (.invokevirtual 186, 3) := by decide +kernel
theorem dX11_paces_28 : decode cX11_paces 28 = .ok (.aload_n 0, 1) := by decide +kernel
theorem dX11_paces_29 : decode cX11_paces 29 = .ok (.getfield 86, 3) := by decide +kernel
theorem dX11_paces_32 : decode cX11_paces 32 = .ok (.iload_n 1, 1) := by decide +kernel
theorem dX11_paces_33 : decode cX11_paces 33 = .ok (.iload_n 2, 1) := by decide +kernel
theorem dX11_paces_34 : decode cX11_paces 34 = .ok (.iconst 0, 1) := by decide +kernel
theorem dX11_paces_35 : decode cX11_paces 35 = .ok (.invokevirtual 277, 3) := by decide +kernel
theorem dX11_paces_38 : decode cX11_paces 38 = .ok (.bipush (-2), 2) := by decide +kernel
theorem dX11_paces_40 : decode cX11_paces 40 = .ok (.if_icmp .ne 8, 3) := by decide +kernel
theorem dX11_paces_43 : decode cX11_paces 43 = .ok (.bipush (-2), 2) := by decide +kernel
theorem dX11_paces_45 : decode cX11_paces 45 = .ok (.goto 11, 3) := by decide +kernel
theorem dX11_paces_48 : decode cX11_paces 48 = .ok (.aload_n 0, 1) := by decide +kernel
theorem dX11_paces_49 : decode cX11_paces 49 = .ok (.getfield 86, 3) := by decide +kernel
theorem dX11_paces_52 : decode cX11_paces 52 = .ok (.iload_n 3, 1) := by decide +kernel
theorem dX11_paces_53 : decode cX11_paces 53 = .ok (.invokevirtual 280, 3) := by decide +kernel
theorem dX11_paces_56 : decode cX11_paces 56 = .ok (.ireturn, 1) := by decide +kernel
theorem dX11_quick_0 : decode cX11_quick 0 = .ok (.aload_n 0, 1) := by decide +kernel
theorem dX11_quick_1 : decode cX11_quick 1 = .ok (.iload_n 1, 1) := by decide +kernel
theorem dX11_quick_2 : decode cX11_quick 2 = .ok (.iload_n 2, 1) := by decide +kernel
theorem dX11_quick_3 : decode cX11_quick 3 = .ok (.invokevirtual 274, 3) := by decide +kernel
theorem dX11_quick_6 : decode cX11_quick 6 = .ok (.ifCond .eq 21, 3) := by decide +kernel
theorem dX11_quick_9 : decode cX11_quick 9 = .ok (.iload_n 3, 1) := by decide +kernel
theorem dX11_quick_10 : decode cX11_quick 10 = .ok (.invokestatic 180, 3) := by decide +kernel
theorem dX11_quick_13 : decode cX11_quick 13 = .ok (.ifCond .eq 14, 3) := by decide +kernel
theorem dX11_quick_16 : decode cX11_quick 16 = .ok (.aload_n 0, 1) := by decide +kernel
theorem dX11_quick_17 : decode cX11_quick 17 = .ok (.getfield 29, 3) := by decide +kernel
theorem dX11_quick_20 : decode cX11_quick 20 = .ok (.iconst 0, 1) := by decide +kernel
theorem dX11_quick_21 : decode cX11_quick 21 = .ok (.invokevirtual 271, 3) := by decide +kernel
theorem dX11_quick_24 : decode cX11_quick 24 = .ok (.ifCond .ne 5, 3) := by decide +kernel
theorem dX11_quick_27 : decode cX11_quick 27 = .ok (.iconst (-1), 1) := by decide +kernel
theorem dX11_quick_28 : decode cX11_quick 28 = .ok (.ireturn, 1) := by decide +kernel
theorem dX11_quick_29 : decode cX11_quick 29 = .ok (.aload_n 0, 1) := by decide +kernel
theorem dX11_quick_30 : decode cX11_quick 30 = .ok (.iload_n 1, 1) := by decide +kernel
theorem dX11_quick_31 : decode cX11_quick 31 = .ok (.invokevirtual 186, 3) := by decide +kernel
theorem dX11_quick_34 : decode cX11_quick 34 = .ok (.aload_n 0, 1) := by decide +kernel
theorem dX11_quick_35 : decode cX11_quick 35 = .ok (.getfield 86, 3) := by decide +kernel
theorem dX11_quick_38 : decode cX11_quick 38 = .ok (.iload_n 1, 1) := by decide +kernel
theorem dX11_quick_39 : decode cX11_quick 39 = .ok (.iload_n 2, 1) := by decide +kernel
theorem dX11_quick_40 : decode cX11_quick 40 = .ok (.iconst 0, 1) := by decide +kernel
theorem dX11_quick_41 : decode cX11_quick 41 = .ok (.invokevirtual 277, 3) := by decide +kernel
theorem dX11_quick_44 : decode cX11_quick 44 = .ok (.istore 4, 2) := by decide +kernel
theorem dX11_quick_46 : decode cX11_quick 46 = .ok (.aload_n 0, 1) := by decide +kernel
theorem dX11_quick_47 : decode cX11_quick 47 = .ok (.getfield 86, 3) := by decide +kernel
theorem dX11_quick_50 : decode cX11_quick 50 = .ok (.iload_n 1, 1) := by decide +kernel
theorem dX11_quick_51 : decode cX11_quick 51 = .ok (.iload_n 2, 1) := by decide +kernel
theorem dX11_quick_52 : decode cX11_quick 52 = .ok (.iload_n 3, 1) := by decide +kernel
theorem dX11_quick_53 : decode cX11_quick 53 = .ok (.invokevirtual 277, 3) := by decide +kernel
theorem dX11_quick_56 : decode cX11_quick 56 = .ok (.istore 5, 2) := by decide +kernel
theorem dX11_quick_58 : decode cX11_quick 58 = .ok (.iload 5, 2) := by decide +kernel
theorem dX11_quick_60 : decode cX11_quick 60 = .ok (.bipush (-2), 2) := by decide +kernel
theorem dX11_quick_62 : decode cX11_quick 62 = .ok (.if_icmp .ne 8, 3) := by decide +kernel
theorem dX11_quick_65 : decode cX11_quick 65 = .ok (.bipush (-2), 2) := by decide +kernel
theorem dX11_quick_67 : decode cX11_quick 67 = .ok (.goto 8, 3) := by decide +kernel
theorem dX11_quick_70 : decode cX11_quick 70 = .ok (.iload 5, 2) := by decide +kernel
theorem dX11_quick_72 : decode cX11_quick 72 = .ok (.iload 4, 2) := by decide +kernel
theorem dX11_quick_74 : decode cX11_quick 74 = .ok (.isub, 1) := by decide +kernel
theorem dX11_quick_75 : decode cX11_quick 75 = .ok (.ireturn, 1) := by decide +kernel
theorem dX11_safe_0 : decode cX11_safe 0 = .ok (.aload_n 0, 1) := by decide +kernel
theorem dX11_safe_1 : decode cX11_safe 1 = .ok (.iload_n 1, 1) := by decide +kernel
theorem dX11_safe_2 : decode cX11_safe 2 = .ok (.iload_n 2, 1) := by decide +kernel
theorem dX11_safe_3 : decode cX11_safe 3 = .ok (.invokevirtual 274, 3) := by decide +kernel
theorem dX11_safe_6 : decode cX11_safe 6 = .ok (.ifCond .eq 30, 3) := by decide +kernel
theorem dX11_safe_9 : decode cX11_safe 9 = .ok (.iload_n 3, 1) := by decide +kernel
theorem dX11_safe_10 : decode cX11_safe 10 = .ok (.iconst 1, 1) := by decide +kernel
theorem dX11_safe_11 : decode cX11_safe 11 = .ok (.if_icmp .lt 25, 3) := by decide +kernel
theorem dX11_safe_14 : decode cX11_safe 14 = .ok (.iload_n 3, 1) := by decide +kernel
theorem dX11_safe_15 : decode cX11_safe 15 = .ok (.aload_n 0, 1) := by decide +kernel
theorem dX11_safe_16 : decode cX11_safe 16 = .ok (.getfield 29, 3) := by decide +kernel
theorem dX11_safe_19 : decode cX11_safe 19 = .ok (.iconst 1, 1) := by decide +kernel
theorem dX11_safe_20 : decode cX11_safe 20 = .ok (.iload_n 1, 1) := by decide +kernel
theorem dX11_safe_21 : decode cX11_safe 21 = .ok (.iconst 0, 1) := by decide +kernel
theorem dX11_safe_22 : decode cX11_safe 22 = .ok (.invokevirtual 176, 3) := by decide +kernel
theorem dX11_safe_25 : decode cX11_safe 25 = .ok (.if_icmp .gt 11, 3) := by decide +kernel
theorem dX11_safe_28 : decode cX11_safe 28 = .ok (.iload 4, 2) := by decide +kernel
theorem dX11_safe_30 : decode cX11_safe 30 = .ok (.invokestatic 283, 3) := by decide +kernel
theorem dX11_safe_33 : decode cX11_safe 33 = .ok (.ifCond .ne 5, 3) := by decide +kernel
theorem dX11_safe_36 : decode cX11_safe 36 = .ok (.iconst (-1), 1) := by decide +kernel
theorem dX11_safe_37 : decode cX11_safe 37 = .ok (.ireturn, 1) := by decide +kernel
theorem dX11_safe_38 : decode cX11_safe 38 = .ok (.aload_n 0, 1) := by decide +kernel
theorem dX11_safe_39 : decode cX11_safe 39 = .ok (.iload_n 1, 1) := by decide +kernel
theorem dX11_safe_40 : decode cX11_safe 40 = .ok (.invokevirtual 186, 3) := by decide +kernel
theorem dX11_safe_43 : decode cX11_safe 43 = .ok (.bipush (-2), 2) := by decide +kernel
theorem dX11_safe_45 : decode cX11_safe 45 = .ok (.istore 5, 2) := by decide +kernel
theorem dX11_safe_47 : decode cX11_safe 47 = .ok (.bipush (-2), 2) := by decide +kernel
theorem dX11_safe_49 : decode cX11_safe 49 = .ok (.istore 6, 2) := by decide +kernel
theorem dX11_safe_51 : decode cX11_safe 51 = .ok (.iconst 1, 1) := by decide +kernel
theorem dX11_safe_52 : decode cX11_safe 52 = .ok (.istore 7, 2) := by decide +kernel
theorem dX11_safe_54 : decode cX11_safe 54 = .ok (.iload 7, 2) := by decide +kernel
theorem dX11_safe_56 : decode cX11_safe 56 = .ok (.bipush 9, 2) := by decide +kernel
theorem dX11_safe_58 : decode cX11_safe 58 = .ok (.if_icmp .gt 82, 3) := by decide +kernel
theorem dX11_safe_61 : decode cX11_safe 61 = .ok (.aload_n 0, 1) := by decide +kernel
theorem dX11_safe_62 : decode cX11_safe 62 = .ok (.iload_n 1, 1) := by decide +kernel
theorem dX11_safe_63 : decode cX11_safe 63 = .ok (.iload_n 2, 1) := by decide +kernel
theorem dX11_safe_64 : decode cX11_safe 64 = .ok (.aload_n 0, 1) := by decide +kernel
theorem dX11_safe_65 : decode cX11_safe 65 = .ok (.getfield 29, 3) := by decide +kernel
theorem dX11_safe_68 : decode cX11_safe 68 = .ok (.iconst 1, 1) := by decide +kernel
theorem dX11_safe_69 : decode cX11_safe 69 = .ok (.iload_n 1, 1) := by decide +kernel
theorem dX11_safe_70 : decode cX11_safe 70 = .ok (.iconst 0, 1) := by decide +kernel
theorem dX11_safe_71 : decode cX11_safe 71 = .ok (.invokevirtual 176, 3) := by decide +kernel
theorem dX11_safe_74 : decode cX11_safe 74 = .ok (.iload 7, 2) := by decide +kernel
theorem dX11_safe_76 : decode cX11_safe 76 = .ok (.invokevirtual 286, 3) := by decide +kernel
theorem dX11_safe_79 : decode cX11_safe 79 = .ok (.istore 8, 2) := by decide +kernel
theorem dX11_safe_81 : decode cX11_safe 81 = .ok (.iload 8, 2) := by decide +kernel
theorem dX11_safe_83 : decode cX11_safe 83 = .ok (.bipush (-2), 2) := by decide +kernel
theorem dX11_safe_85 : decode cX11_safe 85 = .ok (.if_icmp .eq 21, 3) := by decide +kernel
theorem dX11_safe_88 : decode cX11_safe 88 = .ok (.iload 5, 2) := by decide +kernel
theorem dX11_safe_90 : decode cX11_safe 90 = .ok (.bipush (-2), 2) := by decide +kernel
theorem dX11_safe_92 : decode cX11_safe 92 = .ok (.if_icmp .eq 10, 3) := by decide +kernel
theorem dX11_safe_95 : decode cX11_safe 95 = .ok (.iload 8, 2) := by decide +kernel
theorem dX11_safe_97 : decode cX11_safe 97 = .ok (.iload 6, 2) := by decide +kernel
theorem dX11_safe_99 : decode cX11_safe 99 = .ok (.if_icmp .ge 7, 3) := by decide +kernel
theorem dX11_safe_102 : decode cX11_safe 102 = .ok (.iconst 1, 1) := by decide +kernel
theorem dX11_safe_103 : decode cX11_safe 103 = .ok (.goto 4, 3) := by decide +kernel
theorem dX11_safe_106 : decode cX11_safe 106 = .ok (.iconst 0, 1) := by decide +kernel
theorem dX11_safe_107 : decode cX11_safe 107 = .ok (.istore 9, 2) := by decide +kernel
theorem dX11_safe_109 : decode cX11_safe 109 = .ok (.iload 9, 2) := by decide +kernel
theorem dX11_safe_111 : decode cX11_safe 111 = .ok (.ifCond .eq 23, 3) := by decide +kernel
theorem dX11_safe_114 : decode cX11_safe 114 = .ok (.aload_n 0, 1) := by decide +kernel
theorem dX11_safe_115 : decode cX11_safe 115 = .ok (.iload_n 1, 1) := by decide +kernel
theorem dX11_safe_116 : decode cX11_safe 116 = .ok (.iload_n 2, 1) := by decide +kernel
theorem dX11_safe_117 : decode cX11_safe 117 = .ok (.iload_n 3, 1) := by decide +kernel
theorem dX11_safe_118 : decode cX11_safe 118 = .ok (.iload 7, 2) := by decide +kernel
theorem dX11_safe_120 : decode cX11_safe 120 = .ok (.invokevirtual 290, 3) := by decide +kernel
theorem dX11_safe_123 : decode cX11_safe 123 = .ok (.ifCond .eq 11, 3) := by decide +kernel
theorem dX11_safe_126 : decode cX11_safe 126 = .ok (.iload 7, 2) := by decide +kernel
theorem dX11_safe_128 : decode cX11_safe 128 = .ok (.istore 5, 2) := by decide +kernel
theorem dX11_safe_130 : decode cX11_safe 130 = .ok (.iload 8, 2) := by decide +kernel
theorem dX11_safe_132 : decode cX11_safe 132 = .ok (.istore 6, 2) := by decide +kernel
theorem dX11_safe_134 : decode cX11_safe 134 = .ok (.iinc 7 1, 3) := by decide +kernel
theorem dX11_safe_137 : decode cX11_safe 137 = .ok (.goto (-83), 3) := by decide +kernel
theorem dX11_safe_140 : decode cX11_safe 140 = .ok (.iload 4, 2) := by decide +kernel
theorem dX11_safe_142 : decode cX11_safe 142 = .ok (.ifCond .ne 8, 3) := by decide +kernel
theorem dX11_safe_145 : decode cX11_safe 145 = .ok (.iload 5, 2) := by decide +kernel
theorem dX11_safe_147 : decode cX11_safe 147 = .ok (.goto 5, 3) := by decide +kernel
theorem dX11_safe_150 : decode cX11_safe 150 = .ok (.iload 6, 2) := by decide +kernel
theorem dX11_safe_152 : decode cX11_safe 152 = .ok (.ireturn, 1) := by decide +kernel
theorem dX11_isSafe_0 : decode cX11_isSafe 0 = .ok (.iload_n 3, 1) := by decide +kernel
theorem dX11_isSafe_1 : decode cX11_isSafe 1 = .ok (.istore 5, 2) := by decide +kernel
theorem dX11_isSafe_3 : decode cX11_isSafe 3 = .ok (.iload 5, 2) := by decide +kernel
theorem dX11_isSafe_5 : decode cX11_isSafe 5 = .ok (.aload_n 0, 1) := by decide +kernel
theorem dX11_isSafe_6 : decode cX11_isSafe 6 = .ok (.getfield 29, 3) := by decide +kernel
theorem dX11_isSafe_9 : decode cX11_isSafe 9 = .ok (.iconst 1, 1) := by decide +kernel
theorem dX11_isSafe_10 : decode cX11_isSafe 10 = .ok (.iload_n 1, 1) := by decide +kernel
theorem dX11_isSafe_11 : decode cX11_isSafe 11 = .ok (.iconst 0, 1) := by decide +kernel
theorem dX11_isSafe_12 : decode cX11_isSafe 12 = .ok (.invokevirtual 176, 3) := by decide +kernel
theorem dX11_isSafe_15 : decode cX11_isSafe 15 = .ok (.if_icmp .ge 26, 3) := by decide +kernel
theorem dX11_isSafe_18 : decode cX11_isSafe 18 = .ok (.aload_n 0, 1) := by decide +kernel
theorem dX11_isSafe_19 : decode cX11_isSafe 19 = .ok (.iload_n 1, 1) := by decide +kernel
theorem dX11_isSafe_20 : decode cX11_isSafe 20 = .ok (.iload_n 2, 1) := by decide +kernel
theorem dX11_isSafe_21 : decode cX11_isSafe 21 = .ok (.iload 5, 2) := by decide +kernel
theorem dX11_isSafe_23 : decode cX11_isSafe 23 = .ok (.iload 4, 2) := by decide +kernel
theorem dX11_isSafe_25 : decode cX11_isSafe 25 = .ok (.invokevirtual 286, 3) := by decide +kernel
theorem dX11_isSafe_28 : decode cX11_isSafe 28 = .ok (.bipush (-2), 2) := by decide +kernel
theorem dX11_isSafe_30 : decode cX11_isSafe 30 = .ok (.if_icmp .ne 5, 3) := by decide +kernel
theorem dX11_isSafe_33 : decode cX11_isSafe 33 = .ok (.iconst 0, 1) := by decide +kernel
theorem dX11_isSafe_34 : decode cX11_isSafe 34 = .ok (.ireturn, 1) := by decide +kernel
theorem dX11_isSafe_35 : decode cX11_isSafe 35 = .ok (.iinc 5 1, 3) := by decide +kernel
theorem dX11_isSafe_38 : decode cX11_isSafe 38 = .ok (.goto (-35), 3) := by decide +kernel
theorem dX11_isSafe_41 : decode cX11_isSafe 41 = .ok (.iconst 1, 1) := by decide +kernel
theorem dX11_isSafe_42 : decode cX11_isSafe 42 = .ok (.ireturn, 1) := by decide +kernel
theorem dX11_steadyTenths_0 : decode cX11_steadyTenths 0 = .ok (.aload_n 0, 1) := by decide +kernel
theorem dX11_steadyTenths_1 : decode cX11_steadyTenths 1 = .ok (.getfield 78, 3) := by decide +kernel
theorem dX11_steadyTenths_4 : decode cX11_steadyTenths 4 = .ok (.iload_n 3, 1) := by decide +kernel
theorem dX11_steadyTenths_5 : decode cX11_steadyTenths 5 = .ok (.iload_n 3, 1) := by decide +kernel
theorem dX11_steadyTenths_6 : decode cX11_steadyTenths 6 = .ok (.aload_n 0, 1) := by decide +kernel
theorem dX11_steadyTenths_7 : decode cX11_steadyTenths 7 = .ok (.getfield 29, 3) := by decide +kernel
theorem dX11_steadyTenths_10 : decode cX11_steadyTenths 10 = .ok (.iconst 1, 1) := by decide +kernel
theorem dX11_steadyTenths_11 : decode cX11_steadyTenths 11 = .ok (.iload_n 1, 1) := by decide +kernel
theorem dX11_steadyTenths_12 : decode cX11_steadyTenths 12 = .ok (.iconst 1, 1) := by decide +kernel
theorem dX11_steadyTenths_13 : decode cX11_steadyTenths 13 = .ok (.invokevirtual 176, 3) := by decide +kernel
theorem dX11_steadyTenths_16 : decode cX11_steadyTenths 16 = .ok (.aload_n 0, 1) := by decide +kernel
theorem dX11_steadyTenths_17 : decode cX11_steadyTenths 17 = .ok (.getfield 29, 3) := by decide +kernel
theorem dX11_steadyTenths_20 : decode cX11_steadyTenths 20 = .ok (.iconst 2, 1) := by decide +kernel
theorem dX11_steadyTenths_21 : decode cX11_steadyTenths 21 = .ok (.iload_n 2, 1) := by decide +kernel
theorem dX11_steadyTenths_22 : decode cX11_steadyTenths 22 = .ok (.iconst 0, 1) := by decide +kernel
theorem dX11_steadyTenths_23 : decode cX11_steadyTenths 23 = .ok (.invokevirtual 176, 3) := by decide +kernel
theorem dX11_steadyTenths_26 : decode cX11_steadyTenths 26 = .ok (.invokevirtual 294, 3) := by decide +kernel
theorem dX11_steadyTenths_29 : decode cX11_steadyTenths 29 = .ok (.iconst 0, 1) := by decide +kernel
theorem dX11_steadyTenths_30 : decode cX11_steadyTenths 30 = .ok (.istore 5, 2) := by decide +kernel
theorem dX11_steadyTenths_32 : decode cX11_steadyTenths 32 = .ok (.iload 5, 2) := by decide +kernel
theorem dX11_steadyTenths_34 : decode cX11_steadyTenths 34 = .ok (.aload_n 0, 1) := by decide +kernel
theorem dX11_steadyTenths_35 : decode cX11_steadyTenths 35 = .ok (.getfield 29, 3) := by decide +kernel
theorem dX11_steadyTenths_38 : decode cX11_steadyTenths 38 = .ok (.iconst 0, 1) := by decide +kernel
theorem dX11_steadyTenths_39 : decode cX11_steadyTenths 39 = .ok (.invokevirtual 271, 3) := by decide +kernel
theorem dX11_steadyTenths_42 : decode cX11_steadyTenths 42 = .ok (.if_icmp .ge 33, 3) := by decide +kernel
theorem dX11_steadyTenths_45 : decode cX11_steadyTenths 45 = .ok (.aload_n 0, 1) := by decide +kernel
theorem dX11_steadyTenths_46 : decode cX11_steadyTenths 46 = .ok (.getfield 78, 3) := by decide +kernel
theorem dX11_steadyTenths_49 : decode cX11_steadyTenths 49 = .ok (.aload_n 0, 1) := by decide +kernel
theorem dX11_steadyTenths_50 : decode cX11_steadyTenths 50 = .ok (.getfield 48, 3) := by decide +kernel
theorem dX11_steadyTenths_53 : decode cX11_steadyTenths 53 = .ok (.iload 5, 2) := by decide +kernel
theorem dX11_steadyTenths_55 : decode cX11_steadyTenths 55 = .ok (.iload 4, 2) := by decide +kernel
theorem dX11_steadyTenths_57 : decode cX11_steadyTenths 57 = .ok (.aload_n 0, 1) := by decide +kernel
theorem dX11_steadyTenths_58 : decode cX11_steadyTenths 58 = .ok (.getfield 48, 3) := by decide +kernel
theorem dX11_steadyTenths_61 : decode cX11_steadyTenths 61 = .ok (.iload 5, 2) := by decide +kernel
theorem dX11_steadyTenths_63 : decode cX11_steadyTenths 63 = .ok (.invokevirtual 297, 3) := by decide +kernel
theorem dX11_steadyTenths_66 : decode cX11_steadyTenths 66 = .ok (.invokevirtual 300, 3) := by decide +kernel
theorem dX11_steadyTenths_69 : decode cX11_steadyTenths 69 = .ok (.iinc 5 1, 3) := by decide +kernel
theorem dX11_steadyTenths_72 : decode cX11_steadyTenths 72 = .ok (.goto (-40), 3) := by decide +kernel
theorem dX11_steadyTenths_75 : decode cX11_steadyTenths 75 = .ok (.aload_n 0, 1) := by decide +kernel
theorem dX11_steadyTenths_76 : decode cX11_steadyTenths 76 = .ok (.getfield 78, 3) := by decide +kernel
theorem dX11_steadyTenths_79 : decode cX11_steadyTenths 79 = .ok (.invokevirtual 253, 3) := by decide +kernel
theorem dX11_steadyTenths_82 : decode cX11_steadyTenths 82 = .ok (.ifCond .eq 8, 3) := by decide +kernel
theorem dX11_steadyTenths_85 : decode cX11_steadyTenths 85 = .ok (.bipush (-2), 2) := by decide +kernel
theorem dX11_steadyTenths_87 : decode cX11_steadyTenths 87 = .ok (.goto 10, 3) := by decide +kernel
theorem dX11_steadyTenths_90 : decode cX11_steadyTenths 90 = .ok (.aload_n 0, 1) := by decide +kernel
theorem dX11_steadyTenths_91 : decode cX11_steadyTenths 91 = .ok (.getfield 78, 3) := by decide +kernel
theorem dX11_steadyTenths_94 : decode cX11_steadyTenths 94 = .ok (.getfield 241, 3) := by decide +kernel
theorem dX11_steadyTenths_97 : decode cX11_steadyTenths 97 = .ok (.ireturn, 1) := by decide +kernel
theorem dX11_held_0 : decode cX11_held 0 = .ok (.aload_n 0, 1) := by decide +kernel
theorem dX11_held_1 : decode cX11_held 1 = .ok (.getfield 29, 3) := by decide +kernel
theorem dX11_held_4 : decode cX11_held 4 = .ok (.iconst 1, 1) := by decide +kernel
theorem dX11_held_5 : decode cX11_held 5 = .ok (.iload_n 1, 1) := by decide +kernel
theorem dX11_held_6 : decode cX11_held 6 = .ok (.invokevirtual 160, 3) := by decide +kernel
theorem dX11_held_9 : decode cX11_held 9 = .ok (.ifCond .eq 21, 3) := by decide +kernel
theorem dX11_held_12 : decode cX11_held 12 = .ok (.iload_n 2, 1) := by decide +kernel
theorem dX11_held_13 : decode cX11_held 13 = .ok (.invokestatic 283, 3) := by decide +kernel
theorem dX11_held_16 : decode cX11_held 16 = .ok (.ifCond .eq 14, 3) := by decide +kernel
theorem dX11_held_19 : decode cX11_held 19 = .ok (.aload_n 0, 1) := by decide +kernel
theorem dX11_held_20 : decode cX11_held 20 = .ok (.getfield 29, 3) := by decide +kernel
theorem dX11_held_23 : decode cX11_held 23 = .ok (.iconst 2, 1) := by decide +kernel
theorem dX11_held_24 : decode cX11_held 24 = .ok (.invokevirtual 271, 3) := by decide +kernel
theorem dX11_held_27 : decode cX11_held 27 = .ok (.ifCond .ne 5, 3) := by decide +kernel
theorem dX11_held_30 : decode cX11_held 30 = .ok (.iconst (-1), 1) := by decide +kernel
theorem dX11_held_31 : decode cX11_held 31 = .ok (.ireturn, 1) := by decide +kernel
theorem dX11_held_32 : decode cX11_held 32 = .ok (.aload_n 0, 1) := by decide +kernel
theorem dX11_held_33 : decode cX11_held 33 = .ok (.iload_n 1, 1) := by decide +kernel
theorem dX11_held_34 : decode cX11_held 34 = .ok (.invokevirtual 186, 3) := by decide +kernel
theorem dX11_held_37 : decode cX11_held 37 = .ok (.bipush (-2), 2) := by decide +kernel
theorem dX11_held_39 : decode cX11_held 39 = .ok (.istore_n 3, 1) := by decide +kernel
theorem dX11_held_40 : decode cX11_held 40 = .ok (.bipush (-2), 2) := by decide +kernel
theorem dX11_held_42 : decode cX11_held 42 = .ok (.istore 4, 2) := by decide +kernel
theorem dX11_held_44 : decode cX11_held 44 = .ok (.iconst 0, 1) := by decide +kernel
theorem dX11_held_45 : decode cX11_held 45 = .ok (.istore 5, 2) := by decide +kernel
theorem dX11_held_47 : decode cX11_held 47 = .ok (.iload 5, 2) := by decide +kernel
theorem dX11_held_49 : decode cX11_held 49 = .ok (.aload_n 0, 1) := by decide +kernel
theorem dX11_held_50 : decode cX11_held 50 = .ok (.getfield 29, 3) := by decide +kernel
theorem dX11_held_53 : decode cX11_held 53 = .ok (.iconst 2, 1) := by decide +kernel
theorem dX11_held_54 : decode cX11_held 54 = .ok (.invokevirtual 271, 3) := by decide +kernel
theorem dX11_held_57 : decode cX11_held 57 = .ok (.if_icmp .ge 49, 3) := by decide +kernel
theorem dX11_held_60 : decode cX11_held 60 = .ok (.aload_n 0, 1) := by decide +kernel
theorem dX11_held_61 : decode cX11_held 61 = .ok (.getfield 86, 3) := by decide +kernel
theorem dX11_held_64 : decode cX11_held 64 = .ok (.iload_n 1, 1) := by decide +kernel
theorem dX11_held_65 : decode cX11_held 65 = .ok (.iload 5, 2) := by decide +kernel
theorem dX11_held_67 : decode cX11_held 67 = .ok (.iconst 0, 1) := by decide +kernel
theorem dX11_held_68 : decode cX11_held 68 = .ok (.invokevirtual 277, 3) := by decide +kernel
theorem dX11_held_71 : decode cX11_held 71 = .ok (.istore 6, 2) := by decide +kernel
theorem dX11_held_73 : decode cX11_held 73 = .ok (.iload 6, 2) := by decide +kernel
theorem dX11_held_75 : decode cX11_held 75 = .ok (.bipush (-2), 2) := by decide +kernel
theorem dX11_held_77 : decode cX11_held 77 = .ok (.if_icmp .eq 23, 3) := by decide +kernel
theorem dX11_held_80 : decode cX11_held 80 = .ok (.iload_n 3, 1) := by decide +kernel
theorem dX11_held_81 : decode cX11_held 81 = .ok (.bipush (-2), 2) := by decide +kernel
theorem dX11_held_83 : decode cX11_held 83 = .ok (.if_icmp .eq 10, 3) := by decide +kernel
theorem dX11_held_86 : decode cX11_held 86 = .ok (.iload 6, 2) := by decide +kernel
theorem dX11_held_88 : decode cX11_held 88 = .ok (.iload 4, 2) := by decide +kernel
theorem dX11_held_90 : decode cX11_held 90 = .ok (.if_icmp .ge 10, 3) := by decide +kernel
theorem dX11_held_93 : decode cX11_held 93 = .ok (.iload 5, 2) := by decide +kernel
theorem dX11_held_95 : decode cX11_held 95 = .ok (.istore_n 3, 1) := by decide +kernel
theorem dX11_held_96 : decode cX11_held 96 = .ok (.iload 6, 2) := by decide +kernel
theorem dX11_held_98 : decode cX11_held 98 = .ok (.istore 4, 2) := by decide +kernel
theorem dX11_held_100 : decode cX11_held 100 = .ok (.iinc 5 1, 3) := by decide +kernel
theorem dX11_held_103 : decode cX11_held 103 = .ok (.goto (-56), 3) := by decide +kernel
theorem dX11_held_106 : decode cX11_held 106 = .ok (.iload_n 2, 1) := by decide +kernel
theorem dX11_held_107 : decode cX11_held 107 = .ok (.ifCond .ne 7, 3) := by decide +kernel
theorem dX11_held_110 : decode cX11_held 110 = .ok (.iload_n 3, 1) := by decide +kernel
theorem dX11_held_111 : decode cX11_held 111 = .ok (.goto 5, 3) := by decide +kernel
theorem dX11_held_114 : decode cX11_held 114 = .ok (.iload 4, 2) := by decide +kernel
theorem dX11_held_116 : decode cX11_held 116 = .ok (.ireturn, 1) := by decide +kernel
theorem dX11_weighed_0 : decode cX11_weighed 0 = .ok (.aload_n 0, 1) := by decide +kernel
theorem dX11_weighed_1 : decode cX11_weighed 1 = .ok (.iload_n 1, 1) := by decide +kernel
theorem dX11_weighed_2 : decode cX11_weighed 2 = .ok (.iload_n 2, 1) := by decide +kernel
theorem dX11_weighed_3 : decode cX11_weighed 3 = .ok (.invokevirtual 274, 3) := by decide +kernel
theorem dX11_weighed_6 : decode cX11_weighed 6 = .ok (.ifCond .eq 21, 3) := by decide +kernel
theorem dX11_weighed_9 : decode cX11_weighed 9 = .ok (.iload_n 3, 1) := by decide +kernel
theorem dX11_weighed_10 : decode cX11_weighed 10 = .ok (.ifCond .lt 17, 3) := by decide +kernel
theorem dX11_weighed_13 : decode cX11_weighed 13 = .ok (.iload_n 3, 1) := by decide +kernel
theorem dX11_weighed_14 : decode cX11_weighed 14 = .ok (.bipush 10, 2) := by decide +kernel
theorem dX11_weighed_16 : decode cX11_weighed 16 = .ok (.if_icmp .gt 11, 3) := by decide +kernel
theorem dX11_weighed_19 : decode cX11_weighed 19 = .ok (.iload 4, 2) := by decide +kernel
theorem dX11_weighed_21 : decode cX11_weighed 21 = .ok (.invokestatic 283, 3) := by decide +kernel
theorem dX11_weighed_24 : decode cX11_weighed 24 = .ok (.ifCond .ne 5, 3) := by decide +kernel
theorem dX11_weighed_27 : decode cX11_weighed 27 = .ok (.iconst (-1), 1) := by decide +kernel
theorem dX11_weighed_28 : decode cX11_weighed 28 = .ok (.ireturn, 1) := by decide +kernel
theorem dX11_weighed_29 : decode cX11_weighed 29 = .ok (.aload_n 0, 1) := by decide +kernel
theorem dX11_weighed_30 : decode cX11_weighed 30 = .ok (.getfield 29, 3) := by decide +kernel
theorem dX11_weighed_33 : decode cX11_weighed 33 = .ok (.iconst 1, 1) := by decide +kernel
theorem dX11_weighed_34 : decode cX11_weighed 34 = .ok (.iload_n 1, 1) := by decide +kernel
theorem dX11_weighed_35 : decode cX11_weighed 35 = .ok (.iconst 2, 1) := by decide +kernel
theorem dX11_weighed_36 : decode cX11_weighed 36 = .ok (.invokevirtual 176, 3) := by decide +kernel
theorem dX11_weighed_39 : decode cX11_weighed 39 = .ok (.istore 5, 2) := by decide +kernel
theorem dX11_weighed_41 : decode cX11_weighed 41 = .ok (.bipush (-2), 2) := by decide +kernel
theorem dX11_weighed_43 : decode cX11_weighed 43 = .ok (.istore 6, 2) := by decide +kernel
theorem dX11_weighed_45 : decode cX11_weighed 45 = .ok (.bipush (-2), 2) := by decide +kernel
theorem dX11_weighed_47 : decode cX11_weighed 47 = .ok (.istore 7, 2) := by decide +kernel
theorem dX11_weighed_49 : decode cX11_weighed 49 = .ok (.iconst 1, 1) := by decide +kernel
theorem dX11_weighed_50 : decode cX11_weighed 50 = .ok (.iload 5, 2) := by decide +kernel
theorem dX11_weighed_52 : decode cX11_weighed 52 = .ok (.iload_n 3, 1) := by decide +kernel
theorem dX11_weighed_53 : decode cX11_weighed 53 = .ok (.isub, 1) := by decide +kernel
theorem dX11_weighed_54 : decode cX11_weighed 54 = .ok (.invokestatic 304, 3) := by decide +kernel
theorem dX11_weighed_57 : decode cX11_weighed 57 = .ok (.istore 8, 2) := by decide +kernel
theorem dX11_weighed_59 : decode cX11_weighed 59 = .ok (.iload 8, 2) := by decide +kernel
theorem dX11_weighed_61 : decode cX11_weighed 61 = .ok (.bipush 30, 2) := by decide +kernel
theorem dX11_weighed_63 : decode cX11_weighed 63 = .ok (.iload 5, 2) := by decide +kernel
theorem dX11_weighed_65 : decode cX11_weighed 65 = .ok (.iload_n 3, 1) := by decide +kernel
theorem dX11_weighed_66 : decode cX11_weighed 66 = .ok (.iadd, 1) := by decide +kernel
theorem dX11_weighed_67 : decode cX11_weighed 67 = .ok (.invokestatic 310, 3) := by decide +kernel
theorem dX11_weighed_70 : decode cX11_weighed 70 = .ok (.if_icmp .gt 68, 3) := by decide +kernel
theorem dX11_weighed_73 : decode cX11_weighed 73 = .ok (.aload_n 0, 1) := by decide +kernel
theorem dX11_weighed_74 : decode cX11_weighed 74 = .ok (.getfield 48, 3) := by decide +kernel
theorem dX11_weighed_77 : decode cX11_weighed 77 = .ok (.iload 8, 2) := by decide +kernel
theorem dX11_weighed_79 : decode cX11_weighed 79 = .ok (.aload_n 0, 1) := by decide +kernel
theorem dX11_weighed_80 : decode cX11_weighed 80 = .ok (.getfield 36, 3) := by decide +kernel
theorem dX11_weighed_83 : decode cX11_weighed 83 = .ok (.aload_n 0, 1) := by decide +kernel
theorem dX11_weighed_84 : decode cX11_weighed 84 = .ok (.getfield 39, 3) := by decide +kernel
theorem dX11_weighed_87 : decode cX11_weighed 87 = .ok (.iconst 0, 1) := by decide +kernel
theorem dX11_weighed_88 : decode cX11_weighed 88 = .ok (.invokevirtual 313, 3) := by decide +kernel
theorem dX11_weighed_91 : decode cX11_weighed 91 = .ok (.aload_n 0, 1) := by decide +kernel
theorem dX11_weighed_92 : decode cX11_weighed 92 = .ok (.getfield 86, 3) := by decide +kernel
theorem dX11_weighed_95 : decode cX11_weighed 95 = .ok (.iload_n 1, 1) := by decide +kernel
theorem dX11_weighed_96 : decode cX11_weighed 96 = .ok (.iload_n 2, 1) := by decide +kernel
theorem dX11_weighed_97 : decode cX11_weighed 97 = .ok (.iconst 0, 1) := by decide +kernel
theorem dX11_weighed_98 : decode cX11_weighed 98 = .ok (.invokevirtual 277, 3) := by decide +kernel
theorem dX11_weighed_101 : decode cX11_weighed 101 = .ok (.istore 9, 2) := by decide +kernel
theorem dX11_weighed_103 : decode cX11_weighed 103 = .ok (.iload 9, 2) := by decide +kernel
theorem dX11_weighed_105 : decode cX11_weighed 105 = .ok (.bipush (-2), 2) := by decide +kernel
theorem dX11_weighed_107 : decode cX11_weighed 107 = .ok (.if_icmp .eq 25, 3) := by decide +kernel
theorem dX11_weighed_110 : decode cX11_weighed 110 = .ok (.iload 6, 2) := by decide +kernel
theorem dX11_weighed_112 : decode cX11_weighed 112 = .ok (.bipush (-2), 2) := by decide +kernel
theorem dX11_weighed_114 : decode cX11_weighed 114 = .ok (.if_icmp .eq 10, 3) := by decide +kernel
theorem dX11_weighed_117 : decode cX11_weighed 117 = .ok (.iload 9, 2) := by decide +kernel
theorem dX11_weighed_119 : decode cX11_weighed 119 = .ok (.iload 7, 2) := by decide +kernel
theorem dX11_weighed_121 : decode cX11_weighed 121 = .ok (.if_icmp .ge 11, 3) := by decide +kernel
theorem dX11_weighed_124 : decode cX11_weighed 124 = .ok (.iload 8, 2) := by decide +kernel
theorem dX11_weighed_126 : decode cX11_weighed 126 = .ok (.istore 6, 2) := by decide +kernel
theorem dX11_weighed_128 : decode cX11_weighed 128 = .ok (.iload 9, 2) := by decide +kernel
theorem dX11_weighed_130 : decode cX11_weighed 130 = .ok (.istore 7, 2) := by decide +kernel
theorem dX11_weighed_132 : decode cX11_weighed 132 = .ok (.iinc 8 1, 3) := by decide +kernel
theorem dX11_weighed_135 : decode cX11_weighed 135 = .ok (.goto (-76), 3) := by decide +kernel
theorem dX11_weighed_138 : decode cX11_weighed 138 = .ok (.iload 4, 2) := by decide +kernel
theorem dX11_weighed_140 : decode cX11_weighed 140 = .ok (.ifCond .ne 8, 3) := by decide +kernel
theorem dX11_weighed_143 : decode cX11_weighed 143 = .ok (.iload 6, 2) := by decide +kernel
theorem dX11_weighed_145 : decode cX11_weighed 145 = .ok (.goto 5, 3) := by decide +kernel
theorem dX11_weighed_148 : decode cX11_weighed 148 = .ok (.iload 7, 2) := by decide +kernel
theorem dX11_weighed_150 : decode cX11_weighed 150 = .ok (.ireturn, 1) := by decide +kernel
theorem dX11_flat_0 : decode cX11_flat 0 = .ok (.aload_n 0, 1) := by decide +kernel
theorem dX11_flat_1 : decode cX11_flat 1 = .ok (.iload_n 1, 1) := by decide +kernel
theorem dX11_flat_2 : decode cX11_flat 2 = .ok (.iload_n 2, 1) := by decide +kernel
theorem dX11_flat_3 : decode cX11_flat 3 = .ok (.invokevirtual 274, 3) := by decide +kernel
theorem dX11_flat_6 : decode cX11_flat 6 = .ok (.ifCond .ne 5, 3) := by decide +kernel
theorem dX11_flat_9 : decode cX11_flat 9 = .ok (.iconst (-1), 1) := by decide +kernel
theorem dX11_flat_10 : decode cX11_flat 10 = .ok (.ireturn, 1) := by decide +kernel
theorem dX11_flat_11 : decode cX11_flat 11 = .ok (.aload_n 0, 1) := by decide +kernel
theorem dX11_flat_12 : decode cX11_flat 12 = .ok (.getfield 48, 3) := by decide +kernel
theorem dX11_flat_15 : decode cX11_flat 15 = .ok (.aload_n 0, 1) := by decide +kernel
theorem dX11_flat_16 : decode cX11_flat 16 = .ok (.getfield 29, 3) := by decide +kernel
theorem dX11_flat_19 : decode cX11_flat 19 = .ok (.iconst 1, 1) := by decide +kernel
theorem dX11_flat_20 : decode cX11_flat 20 = .ok (.iload_n 1, 1) := by decide +kernel
theorem dX11_flat_21 : decode cX11_flat 21 = .ok (.iconst 2, 1) := by decide +kernel
theorem dX11_flat_22 : decode cX11_flat 22 = .ok (.invokevirtual 176, 3) := by decide +kernel
theorem dX11_flat_25 : decode cX11_flat 25 = .ok (.aload_n 0, 1) := by decide +kernel
theorem dX11_flat_26 : decode cX11_flat 26 = .ok (.getfield 36, 3) := by decide +kernel
theorem dX11_flat_29 : decode cX11_flat 29 = .ok (.aload_n 0, 1) := by decide +kernel
theorem dX11_flat_30 : decode cX11_flat 30 = .ok (.getfield 39, 3) := by decide +kernel
theorem dX11_flat_33 : decode cX11_flat 33 = .ok (.iconst 1, 1) := by decide +kernel
theorem dX11_flat_34 : decode cX11_flat 34 = .ok (.invokevirtual 313, 3) := by decide +kernel
theorem dX11_flat_37 : decode cX11_flat 37 = .ok (.aload_n 0, 1) := by decide +kernel
theorem dX11_flat_38 : decode cX11_flat 38 = .ok (.getfield 86, 3) := by decide +kernel
theorem dX11_flat_41 : decode cX11_flat 41 = .ok (.iload_n 1, 1) := by decide +kernel
theorem dX11_flat_42 : decode cX11_flat 42 = .ok (.iload_n 2, 1) := by decide +kernel
theorem dX11_flat_43 : decode cX11_flat 43 = .ok (.iconst 0, 1) := by decide +kernel
theorem dX11_flat_44 : decode cX11_flat 44 = .ok (.invokevirtual 277, 3) := by decide +kernel
theorem dX11_flat_47 : decode cX11_flat 47 = .ok (.ireturn, 1) := by decide +kernel
theorem dX11_alike_0 : decode cX11_alike 0 = .ok (.aload_n 0, 1) := by decide +kernel
theorem dX11_alike_1 : decode cX11_alike 1 = .ok (.iload_n 1, 1) := by decide +kernel
theorem dX11_alike_2 : decode cX11_alike 2 = .ok (.iload_n 2, 1) := by decide +kernel
theorem dX11_alike_3 : decode cX11_alike 3 = .ok (.invokevirtual 274, 3) := by decide +kernel
theorem dX11_alike_6 : decode cX11_alike 6 = .ok (.ifCond .eq 14, 3) := by decide +kernel
theorem dX11_alike_9 : decode cX11_alike 9 = .ok (.iload_n 3, 1) := by decide +kernel
theorem dX11_alike_10 : decode cX11_alike 10 = .ok (.ifCond .lt 10, 3) := by decide +kernel
theorem dX11_alike_13 : decode cX11_alike 13 = .ok (.iload_n 3, 1) := by decide +kernel
theorem dX11_alike_14 : decode cX11_alike 14 = .ok (.sipush 9999, 3) := by decide +kernel
theorem dX11_alike_17 : decode cX11_alike 17 = .ok (.if_icmp .le 5, 3) := by decide +kernel
theorem dX11_alike_20 : decode cX11_alike 20 = .ok (.iconst (-1), 1) := by decide +kernel
theorem dX11_alike_21 : decode cX11_alike 21 = .ok (.ireturn, 1) := by decide +kernel
theorem dX11_alike_22 : decode cX11_alike 22 = .ok (.bipush 30, 2) := by decide +kernel
theorem dX11_alike_24 : decode cX11_alike 24 = .ok (.istore 4, 2) := by decide +kernel
theorem dX11_alike_26 : decode cX11_alike 26 = .ok (.iload 4, 2) := by decide +kernel
theorem dX11_alike_28 : decode cX11_alike 28 = .ok (.ifCond .lt 61, 3) := by decide +kernel
theorem dX11_alike_31 : decode cX11_alike 31 = .ok (.aload_n 0, 1) := by decide +kernel
theorem dX11_alike_32 : decode cX11_alike 32 = .ok (.getfield 48, 3) := by decide +kernel
theorem dX11_alike_35 : decode cX11_alike 35 = .ok (.aload_n 0, 1) := by decide +kernel
theorem dX11_alike_36 : decode cX11_alike 36 = .ok (.getfield 29, 3) := by decide +kernel
theorem dX11_alike_39 : decode cX11_alike 39 = .ok (.iconst 1, 1) := by decide +kernel
theorem dX11_alike_40 : decode cX11_alike 40 = .ok (.iload_n 1, 1) := by decide +kernel
theorem dX11_alike_41 : decode cX11_alike 41 = .ok (.iconst 2, 1) := by decide +kernel
theorem dX11_alike_42 : decode cX11_alike 42 = .ok (.invokevirtual 176, 3) := by decide +kernel
theorem dX11_alike_45 : decode cX11_alike 45 = .ok (.iload 4, 2) := by decide +kernel
theorem dX11_alike_47 : decode cX11_alike 47 = .ok (.aload_n 0, 1) := by decide +kernel
theorem dX11_alike_48 : decode cX11_alike 48 = .ok (.getfield 39, 3) := by decide +kernel
theorem dX11_alike_51 : decode cX11_alike 51 = .ok (.iconst 0, 1) := by decide +kernel
theorem dX11_alike_52 : decode cX11_alike 52 = .ok (.invokevirtual 313, 3) := by decide +kernel
theorem dX11_alike_55 : decode cX11_alike 55 = .ok (.aload_n 0, 1) := by decide +kernel
theorem dX11_alike_56 : decode cX11_alike 56 = .ok (.getfield 86, 3) := by decide +kernel
theorem dX11_alike_59 : decode cX11_alike 59 = .ok (.iload_n 1, 1) := by decide +kernel
theorem dX11_alike_60 : decode cX11_alike 60 = .ok (.iload_n 2, 1) := by decide +kernel
theorem dX11_alike_61 : decode cX11_alike 61 = .ok (.iconst 0, 1) := by decide +kernel
theorem dX11_alike_62 : decode cX11_alike 62 = .ok (.invokevirtual 277, 3) := by decide +kernel
theorem dX11_alike_65 : decode cX11_alike 65 = .ok (.istore 5, 2) := by decide +kernel
theorem dX11_alike_67 : decode cX11_alike 67 = .ok (.iload 5, 2) := by decide +kernel
theorem dX11_alike_69 : decode cX11_alike 69 = .ok (.bipush (-2), 2) := by decide +kernel
theorem dX11_alike_71 : decode cX11_alike 71 = .ok (.if_icmp .eq 12, 3) := by decide +kernel
theorem dX11_alike_74 : decode cX11_alike 74 = .ok (.iload 5, 2) := by decide +kernel
theorem dX11_alike_76 : decode cX11_alike 76 = .ok (.iload_n 3, 1) := by decide +kernel
theorem dX11_alike_77 : decode cX11_alike 77 = .ok (.if_icmp .gt 6, 3) := by decide +kernel
theorem dX11_alike_80 : decode cX11_alike 80 = .ok (.iload 4, 2) := by decide +kernel
theorem dX11_alike_82 : decode cX11_alike 82 = .ok (.ireturn, 1) := by decide +kernel
theorem dX11_alike_83 : decode cX11_alike 83 = .ok (.iinc 4 (-1), 3) := by decide +kernel
theorem dX11_alike_86 : decode cX11_alike 86 = .ok (.goto (-60), 3) := by decide +kernel
theorem dX11_alike_89 : decode cX11_alike 89 = .ok (.bipush (-2), 2) := by decide +kernel
theorem dX11_alike_91 : decode cX11_alike 91 = .ok (.ireturn, 1) := by decide +kernel
theorem dX11_trained_0 : decode cX11_trained 0 = .ok (.aload_n 0, 1) := by decide +kernel
theorem dX11_trained_1 : decode cX11_trained 1 = .ok (.getfield 29, 3) := by decide +kernel
theorem dX11_trained_4 : decode cX11_trained 4 = .ok (.iconst 1, 1) := by decide +kernel
theorem dX11_trained_5 : decode cX11_trained 5 = .ok (.iload_n 1, 1) := by decide +kernel
theorem dX11_trained_6 : decode cX11_trained 6 = .ok (.invokevirtual 160, 3) := by decide +kernel
theorem dX11_trained_9 : decode cX11_trained 9 = .ok (.ifCond .eq 36, 3) := by decide +kernel
theorem dX11_trained_12 : decode cX11_trained 12 = .ok (.iload_n 2, 1) := by decide +kernel
theorem dX11_trained_13 : decode cX11_trained 13 = .ok (.iconst 1, 1) := by decide +kernel
theorem dX11_trained_14 : decode cX11_trained 14 = .ok (.if_icmp .lt 31, 3) := by decide +kernel
theorem dX11_trained_17 : decode cX11_trained 17 = .ok (.iload_n 2, 1) := by decide +kernel
theorem dX11_trained_18 : decode cX11_trained 18 = .ok (.bipush 6, 2) := by decide +kernel
theorem dX11_trained_20 : decode cX11_trained 20 = .ok (.if_icmp .gt 25, 3) := by decide +kernel
theorem dX11_trained_23 : decode cX11_trained 23 = .ok (.iload_n 3, 1) := by decide +kernel
theorem dX11_trained_24 : decode cX11_trained 24 = .ok (.ifCond .lt 21, 3) := by decide +kernel
theorem dX11_trained_27 : decode cX11_trained 27 = .ok (.iload_n 3, 1) := by decide +kernel
theorem dX11_trained_28 : decode cX11_trained 28 = .ok (.sipush 999, 3) := by decide +kernel
theorem dX11_trained_31 : decode cX11_trained 31 = .ok (.if_icmp .gt 14, 3) := by decide +kernel
theorem dX11_trained_34 : decode cX11_trained 34 = .ok (.iload 4, 2) := by decide +kernel
theorem dX11_trained_36 : decode cX11_trained 36 = .ok (.ifCond .lt 9, 3) := by decide +kernel
theorem dX11_trained_39 : decode cX11_trained 39 = .ok (.iload 4, 2) := by decide +kernel
theorem dX11_trained_41 : decode cX11_trained 41 = .ok (.iconst 2, 1) := by decide +kernel
theorem dX11_trained_42 : decode cX11_trained 42 = .ok (.if_icmp .le 7, 3) := by decide +kernel
theorem dX11_trained_45 : decode cX11_trained 45 = .ok (.sipush (-999), 3) := by decide +kernel
theorem dX11_trained_48 : decode cX11_trained 48 = .ok (.ireturn, 1) := by decide +kernel
theorem dX11_trained_49 : decode cX11_trained 49 = .ok (.aload_n 0, 1) := by decide +kernel
theorem dX11_trained_50 : decode cX11_trained 50 = .ok (.getfield 93, 3) := by decide +kernel
theorem dX11_trained_53 : decode cX11_trained 53 = .ok (.aload_n 0, 1) := by decide +kernel
theorem dX11_trained_54 : decode cX11_trained 54 = .ok (.getfield 29, 3) := by decide +kernel
theorem dX11_trained_57 : decode cX11_trained 57 = .ok (.getfield 193, 3) := by decide +kernel
theorem dX11_trained_60 : decode cX11_trained 60 = .ok (.aload_n 0, 1) := by decide +kernel
theorem dX11_trained_61 : decode cX11_trained 61 = .ok (.getfield 29, 3) := by decide +kernel
theorem dX11_trained_64 : decode cX11_trained 64 = .ok (.iconst 1, 1) := by decide +kernel
theorem dX11_trained_65 : decode cX11_trained 65 = .ok (.iload_n 1, 1) := by decide +kernel
theorem dX11_trained_66 : decode cX11_trained 66 = .ok (.iconst 2, 1) := by decide +kernel
theorem dX11_trained_67 : decode cX11_trained 67 = .ok (.invokevirtual 176, 3) := by decide +kernel
theorem dX11_trained_70 : decode cX11_trained 70 = .ok (.iload_n 2, 1) := by decide +kernel
theorem dX11_trained_71 : decode cX11_trained 71 = .ok (.iload_n 3, 1) := by decide +kernel
theorem dX11_trained_72 : decode cX11_trained 72 = .ok (.invokevirtual 317, 3) := by decide +kernel
theorem dX11_trained_75 : decode cX11_trained 75 = .ok (.aload_n 0, 1) := by decide +kernel
theorem dX11_trained_76 : decode cX11_trained 76 = .ok (.getfield 93, 3) := by decide +kernel
theorem dX11_trained_79 : decode cX11_trained 79 = .ok (.getfield 320, 3) := by decide +kernel
theorem dX11_trained_82 : decode cX11_trained 82 = .ok (.ifCond .ne 15, 3) := by decide +kernel
theorem dX11_trained_85 : decode cX11_trained 85 = .ok (.iload 4, 2) := by decide +kernel
theorem dX11_trained_87 : decode cX11_trained 87 = .ok (.ifCond .ne 8, 3) := by decide +kernel
theorem dX11_trained_90 : decode cX11_trained 90 = .ok (.bipush (-99), 2) := by decide +kernel
theorem dX11_trained_92 : decode cX11_trained 92 = .ok (.goto 4, 3) := by decide +kernel
theorem dX11_trained_95 : decode cX11_trained 95 = .ok (.iconst (-1), 1) := by decide +kernel
theorem dX11_trained_96 : decode cX11_trained 96 = .ok (.ireturn, 1) := by decide +kernel
theorem dX11_trained_97 : decode cX11_trained 97 = .ok (.iload 4, 2) := by decide +kernel
theorem dX11_trained_99 : decode cX11_trained 99 = .ok (.ifCond .ne 11, 3) := by decide +kernel
theorem dX11_trained_102 : decode cX11_trained 102 = .ok (.aload_n 0, 1) := by decide +kernel
theorem dX11_trained_103 : decode cX11_trained 103 = .ok (.getfield 93, 3) := by decide +kernel
theorem dX11_trained_106 : decode cX11_trained 106 = .ok (.getfield 323, 3) := by decide +kernel
theorem dX11_trained_109 : decode cX11_trained 109 = .ok (.ireturn, 1) := by decide +kernel
theorem dX11_trained_110 : decode cX11_trained 110 = .ok (.iload 4, 2) := by decide +kernel
theorem dX11_trained_112 : decode cX11_trained 112 = .ok (.iconst 1, 1) := by decide +kernel
theorem dX11_trained_113 : decode cX11_trained 113 = .ok (.if_icmp .ne 13, 3) := by decide +kernel
theorem dX11_trained_116 : decode cX11_trained 116 = .ok (.aload_n 0, 1) := by decide +kernel
theorem dX11_trained_117 : decode cX11_trained 117 = .ok (.getfield 93, 3) := by decide +kernel
theorem dX11_trained_120 : decode cX11_trained 120 = .ok (.getfield 326, 3) := by decide +kernel
theorem dX11_trained_123 : decode cX11_trained 123 = .ok (.goto 10, 3) := by decide +kernel
theorem dX11_trained_126 : decode cX11_trained 126 = .ok (.aload_n 0, 1) := by decide +kernel
theorem dX11_trained_127 : decode cX11_trained 127 = .ok (.getfield 93, 3) := by decide +kernel
theorem dX11_trained_130 : decode cX11_trained 130 = .ok (.getfield 329, 3) := by decide +kernel
theorem dX11_trained_133 : decode cX11_trained 133 = .ok (.ireturn, 1) := by decide +kernel
theorem dX11_note_0 : decode cX11_note 0 = .ok (.aload_n 0, 1) := by decide +kernel
theorem dX11_note_1 : decode cX11_note 1 = .ok (.iload_n 1, 1) := by decide +kernel
theorem dX11_note_2 : decode cX11_note 2 = .ok (.iload_n 2, 1) := by decide +kernel
theorem dX11_note_3 : decode cX11_note 3 = .ok (.invokevirtual 203, 3) := by decide +kernel
theorem dX11_note_6 : decode cX11_note 6 = .ok (.ifCond .eq 28, 3) := by decide +kernel
theorem dX11_note_9 : decode cX11_note 9 = .ok (.aload_n 0, 1) := by decide +kernel
theorem dX11_note_10 : decode cX11_note 10 = .ok (.getfield 29, 3) := by decide +kernel
theorem dX11_note_13 : decode cX11_note 13 = .ok (.iconst 0, 1) := by decide +kernel
theorem dX11_note_14 : decode cX11_note 14 = .ok (.iload_n 3, 1) := by decide +kernel
theorem dX11_note_15 : decode cX11_note 15 = .ok (.invokevirtual 160, 3) := by decide +kernel
theorem dX11_note_18 : decode cX11_note 18 = .ok (.ifCond .eq 16, 3) := by decide +kernel
theorem dX11_note_21 : decode cX11_note 21 = .ok (.iload 4, 2) := by decide +kernel
theorem dX11_note_23 : decode cX11_note 23 = .ok (.ifCond .lt 11, 3) := by decide +kernel
theorem dX11_note_26 : decode cX11_note 26 = .ok (.iload 4, 2) := by decide +kernel
theorem dX11_note_28 : decode cX11_note 28 = .ok (.ldc_w 332, 3) := by decide +kernel
theorem dX11_note_31 : decode cX11_note 31 = .ok (.if_icmp .le 5, 3) := by decide +kernel
theorem dX11_note_34 : decode cX11_note 34 = .ok (.iconst (-1), 1) := by decide +kernel
theorem dX11_note_35 : decode cX11_note 35 = .ok (.ireturn, 1) := by decide +kernel
theorem dX11_note_36 : decode cX11_note 36 = .ok (.aload_n 0, 1) := by decide +kernel
theorem dX11_note_37 : decode cX11_note 37 = .ok (.getfield 100, 3) := by decide +kernel
theorem dX11_note_40 : decode cX11_note 40 = .ok (.iload_n 1, 1) := by decide +kernel
theorem dX11_note_41 : decode cX11_note 41 = .ok (.iload_n 2, 1) := by decide +kernel
theorem dX11_note_42 : decode cX11_note 42 = .ok (.iload_n 3, 1) := by decide +kernel
theorem dX11_note_43 : decode cX11_note 43 = .ok (.iload 4, 2) := by decide +kernel
theorem dX11_note_45 : decode cX11_note 45 = .ok (.invokevirtual 333, 3) := by decide +kernel
theorem dX11_note_48 : decode cX11_note 48 = .ok (.ireturn, 1) := by decide +kernel
theorem dX11_strike_0 : decode cX11_strike 0 = .ok (.iload_n 1, 1) := by decide +kernel
theorem dX11_strike_1 : decode cX11_strike 1 = .ok (.ifCond .lt 14, 3) := by decide +kernel
theorem dX11_strike_4 : decode cX11_strike 4 = .ok (.iload_n 1, 1) := by decide +kernel
theorem dX11_strike_5 : decode cX11_strike 5 = .ok (.aload_n 0, 1) := by decide +kernel
theorem dX11_strike_6 : decode cX11_strike 6 = .ok (.getfield 100, 3) := by decide +kernel
theorem dX11_strike_9 : decode cX11_strike 9 = .ok (.getfield 336, 3) := by decide +kernel
theorem dX11_strike_12 : decode cX11_strike 12 = .ok (.if_icmp .lt 7, 3) := by decide +kernel
theorem dX11_strike_15 : decode cX11_strike 15 = .ok (.iconst (-1), 1) := by decide +kernel
theorem dX11_strike_16 : decode cX11_strike 16 = .ok (.goto 14, 3) := by decide +kernel
theorem dX11_strike_19 : decode cX11_strike 19 = .ok (.aload_n 0, 1) := by decide +kernel
theorem dX11_strike_20 : decode cX11_strike 20 = .ok (.getfield 100, 3) := by decide +kernel
theorem dX11_strike_23 : decode cX11_strike 23 = .ok (.iconst (-1), 1) := by decide +kernel
theorem dX11_strike_24 : decode cX11_strike 24 = .ok (.iconst 0, 1) := by decide +kernel
theorem dX11_strike_25 : decode cX11_strike 25 = .ok (.iconst 0, 1) := by decide +kernel
theorem dX11_strike_26 : decode cX11_strike 26 = .ok (.iload_n 1, 1) := by decide +kernel
theorem dX11_strike_27 : decode cX11_strike 27 = .ok (.invokevirtual 333, 3) := by decide +kernel
theorem dX11_strike_30 : decode cX11_strike 30 = .ok (.ireturn, 1) := by decide +kernel
theorem dX11_known_0 : decode cX11_known 0 = .ok (.iload_n 1, 1) := by decide +kernel
theorem dX11_known_1 : decode cX11_known 1 = .ok (.iconst (-1), 1) := by decide +kernel
theorem dX11_known_2 : decode cX11_known 2 = .ok (.if_icmp .lt 14, 3) := by decide +kernel
theorem dX11_known_5 : decode cX11_known 5 = .ok (.iload_n 1, 1) := by decide +kernel
theorem dX11_known_6 : decode cX11_known 6 = .ok (.aload_n 0, 1) := by decide +kernel
theorem dX11_known_7 : decode cX11_known 7 = .ok (.getfield 100, 3) := by decide +kernel
theorem dX11_known_10 : decode cX11_known 10 = .ok (.getfield 336, 3) := by decide +kernel
theorem dX11_known_13 : decode cX11_known 13 = .ok (.if_icmp .le 5, 3) := by decide +kernel
theorem dX11_known_16 : decode cX11_known 16 = .ok (.iconst 0, 1) := by decide +kernel
theorem dX11_known_17 : decode cX11_known 17 = .ok (.ireturn, 1) := by decide +kernel
theorem dX11_known_18 : decode cX11_known 18 = .ok (.aload_n 0, 1) := by decide +kernel
theorem dX11_known_19 : decode cX11_known 19 = .ok (.getfield 100, 3) := by decide +kernel
theorem dX11_known_22 : decode cX11_known 22 = .ok (.iload_n 1, 1) := by decide +kernel
theorem dX11_known_23 : decode cX11_known 23 = .ok (.invokevirtual 338, 3) := by decide +kernel
theorem dX11_known_26 : decode cX11_known 26 = .ok (.iconst 1, 1) := by decide +kernel
theorem dX11_known_27 : decode cX11_known 27 = .ok (.ireturn, 1) := by decide +kernel
theorem dX11_fits_0 : decode cX11_fits 0 = .ok (.aload_n 0, 1) := by decide +kernel
theorem dX11_fits_1 : decode cX11_fits 1 = .ok (.getfield 29, 3) := by decide +kernel
theorem dX11_fits_4 : decode cX11_fits 4 = .ok (.iconst 1, 1) := by decide +kernel
theorem dX11_fits_5 : decode cX11_fits 5 = .ok (.iload_n 1, 1) := by decide +kernel
theorem dX11_fits_6 : decode cX11_fits 6 = .ok (.invokevirtual 160, 3) := by decide +kernel
theorem dX11_fits_9 : decode cX11_fits 9 = .ok (.ifCond .eq 12, 3) := by decide +kernel
theorem dX11_fits_12 : decode cX11_fits 12 = .ok (.iload_n 2, 1) := by decide +kernel
theorem dX11_fits_13 : decode cX11_fits 13 = .ok (.ifCond .lt 8, 3) := by decide +kernel
theorem dX11_fits_16 : decode cX11_fits 16 = .ok (.iload_n 2, 1) := by decide +kernel
theorem dX11_fits_17 : decode cX11_fits 17 = .ok (.iconst 4, 1) := by decide +kernel
theorem dX11_fits_18 : decode cX11_fits 18 = .ok (.if_icmp .le 5, 3) := by decide +kernel
theorem dX11_fits_21 : decode cX11_fits 21 = .ok (.iconst (-1), 1) := by decide +kernel
theorem dX11_fits_22 : decode cX11_fits 22 = .ok (.ireturn, 1) := by decide +kernel
theorem dX11_fits_23 : decode cX11_fits 23 = .ok (.aload_n 0, 1) := by decide +kernel
theorem dX11_fits_24 : decode cX11_fits 24 = .ok (.iload_n 1, 1) := by decide +kernel
theorem dX11_fits_25 : decode cX11_fits 25 = .ok (.invokevirtual 186, 3) := by decide +kernel
theorem dX11_fits_28 : decode cX11_fits 28 = .ok (.aload_n 0, 1) := by decide +kernel
theorem dX11_fits_29 : decode cX11_fits 29 = .ok (.getfield 100, 3) := by decide +kernel
theorem dX11_fits_32 : decode cX11_fits 32 = .ok (.aload_n 0, 1) := by decide +kernel
theorem dX11_fits_33 : decode cX11_fits 33 = .ok (.getfield 48, 3) := by decide +kernel
theorem dX11_fits_36 : decode cX11_fits 36 = .ok (.aload_n 0, 1) := by decide +kernel
theorem dX11_fits_37 : decode cX11_fits 37 = .ok (.getfield 78, 3) := by decide +kernel
theorem dX11_fits_40 : decode cX11_fits 40 = .ok (.iload_n 1, 1) := by decide +kernel
theorem dX11_fits_41 : decode cX11_fits 41 = .ok (.invokevirtual 341, 3) := by decide +kernel
theorem dX11_fits_44 : decode cX11_fits 44 = .ok (.aload_n 0, 1) := by decide +kernel
theorem dX11_fits_45 : decode cX11_fits 45 = .ok (.getfield 100, 3) := by decide +kernel
theorem dX11_fits_48 : decode cX11_fits 48 = .ok (.iload_n 2, 1) := by decide +kernel
theorem dX11_fits_49 : decode cX11_fits 49 = .ok (.invokevirtual 345, 3) := by decide +kernel
theorem dX11_fits_52 : decode cX11_fits 52 = .ok (.ireturn, 1) := by decide +kernel
theorem dX11_wins_0 : decode cX11_wins 0 = .ok (.iload_n 1, 1) := by decide +kernel
theorem dX11_wins_1 : decode cX11_wins 1 = .ok (.ifCond .lt 30, 3) := by decide +kernel
theorem dX11_wins_4 : decode cX11_wins 4 = .ok (.aload_n 0, 1) := by decide +kernel
theorem dX11_wins_5 : decode cX11_wins 5 = .ok (.iload_n 2, 1) := by decide +kernel
theorem dX11_wins_6 : decode cX11_wins 6 = .ok (.invokevirtual 348, 3) := by decide +kernel
theorem dX11_wins_9 : decode cX11_wins 9 = .ok (.ifCond .eq 22, 3) := by decide +kernel
theorem dX11_wins_12 : decode cX11_wins 12 = .ok (.aload_n 0, 1) := by decide +kernel
theorem dX11_wins_13 : decode cX11_wins 13 = .ok (.iload 4, 2) := by decide +kernel
theorem dX11_wins_15 : decode cX11_wins 15 = .ok (.iload_n 3, 1) := by decide +kernel
theorem dX11_wins_16 : decode cX11_wins 16 = .ok (.invokevirtual 203, 3) := by decide +kernel
theorem dX11_wins_19 : decode cX11_wins 19 = .ok (.ifCond .eq 12, 3) := by decide +kernel
theorem dX11_wins_22 : decode cX11_wins 22 = .ok (.iload_n 2, 1) := by decide +kernel
theorem dX11_wins_23 : decode cX11_wins 23 = .ok (.iload 4, 2) := by decide +kernel
theorem dX11_wins_25 : decode cX11_wins 25 = .ok (.ishr, 1) := by decide +kernel
theorem dX11_wins_26 : decode cX11_wins 26 = .ok (.iconst 1, 1) := by decide +kernel
theorem dX11_wins_27 : decode cX11_wins 27 = .ok (.iand, 1) := by decide +kernel
theorem dX11_wins_28 : decode cX11_wins 28 = .ok (.ifCond .ne 5, 3) := by decide +kernel
theorem dX11_wins_31 : decode cX11_wins 31 = .ok (.iconst (-1), 1) := by decide +kernel
theorem dX11_wins_32 : decode cX11_wins 32 = .ok (.ireturn, 1) := by decide +kernel
theorem dX11_wins_33 : decode cX11_wins 33 = .ok (.aload_n 0, 1) := by decide +kernel
theorem dX11_wins_34 : decode cX11_wins 34 = .ok (.getfield 78, 3) := by decide +kernel
theorem dX11_wins_37 : decode cX11_wins 37 = .ok (.iload_n 1, 1) := by decide +kernel
theorem dX11_wins_38 : decode cX11_wins 38 = .ok (.i2l, 1) := by decide +kernel
theorem dX11_wins_39 : decode cX11_wins 39 = .ok (.putfield 128, 3) := by decide +kernel
theorem dX11_wins_42 : decode cX11_wins 42 = .ok (.iconst 0, 1) := by decide +kernel
theorem dX11_wins_43 : decode cX11_wins 43 = .ok (.istore 5, 2) := by decide +kernel
theorem dX11_wins_45 : decode cX11_wins 45 = .ok (.iconst 0, 1) := by decide +kernel
theorem dX11_wins_46 : decode cX11_wins 46 = .ok (.istore 6, 2) := by decide +kernel
theorem dX11_wins_48 : decode cX11_wins 48 = .ok (.iload 6, 2) := by decide +kernel
theorem dX11_wins_50 : decode cX11_wins 50 = .ok (.bipush 10, 2) := by decide +kernel
theorem dX11_wins_52 : decode cX11_wins 52 = .ok (.if_icmp .ge 116, 3) := by decide +kernel
theorem dX11_wins_55 : decode cX11_wins 55 = .ok (.iconst (-1), 1) := by decide +kernel
theorem dX11_wins_56 : decode cX11_wins 56 = .ok (.istore 7, 2) := by decide +kernel
theorem dX11_wins_58 : decode cX11_wins 58 = .ok (.iconst 0, 1) := by decide +kernel
theorem dX11_wins_59 : decode cX11_wins 59 = .ok (.istore 8, 2) := by decide +kernel
theorem dX11_wins_61 : decode cX11_wins 61 = .ok (.iconst 0, 1) := by decide +kernel
theorem dX11_wins_62 : decode cX11_wins 62 = .ok (.istore 9, 2) := by decide +kernel
theorem dX11_wins_64 : decode cX11_wins 64 = .ok (.iload 9, 2) := by decide +kernel
theorem dX11_wins_66 : decode cX11_wins 66 = .ok (.aload_n 0, 1) := by decide +kernel
theorem dX11_wins_67 : decode cX11_wins 67 = .ok (.getfield 29, 3) := by decide +kernel
theorem dX11_wins_70 : decode cX11_wins 70 = .ok (.iconst 1, 1) := by decide +kernel
theorem dX11_wins_71 : decode cX11_wins 71 = .ok (.invokevirtual 271, 3) := by decide +kernel
theorem dX11_wins_74 : decode cX11_wins 74 = .ok (.if_icmp .ge 71, 3) := by decide +kernel
theorem dX11_wins_77 : decode cX11_wins 77 = .ok (.iload_n 2, 1) := by decide +kernel
theorem dX11_wins_78 : decode cX11_wins 78 = .ok (.iload 9, 2) := by decide +kernel
theorem dX11_wins_80 : decode cX11_wins 80 = .ok (.ishr, 1) := by decide +kernel
theorem dX11_wins_81 : decode cX11_wins 81 = .ok (.iconst 1, 1) := by decide +kernel
theorem dX11_wins_82 : decode cX11_wins 82 = .ok (.iand, 1) := by decide +kernel
theorem dX11_wins_83 : decode cX11_wins 83 = .ok (.ifCond .eq 17, 3) := by decide +kernel
theorem dX11_wins_86 : decode cX11_wins 86 = .ok (.aload_n 0, 1) := by decide +kernel
theorem dX11_wins_87 : decode cX11_wins 87 = .ok (.iload 9, 2) := by decide +kernel
theorem dX11_wins_89 : decode cX11_wins 89 = .ok (.iload_n 3, 1) := by decide +kernel
theorem dX11_wins_90 : decode cX11_wins 90 = .ok (.invokevirtual 351, 3) := by decide +kernel
theorem dX11_wins_93 : decode cX11_wins 93 = .ok (.ifCond .eq 7, 3) := by decide +kernel
theorem dX11_wins_96 : decode cX11_wins 96 = .ok (.iconst 1, 1) := by decide +kernel
theorem dX11_wins_97 : decode cX11_wins 97 = .ok (.goto 4, 3) := by decide +kernel
theorem dX11_wins_100 : decode cX11_wins 100 = .ok (.iconst 0, 1) := by decide +kernel
theorem dX11_wins_101 : decode cX11_wins 101 = .ok (.istore 10, 2) := by decide +kernel
theorem dX11_wins_103 : decode cX11_wins 103 = .ok (.iload 10, 2) := by decide +kernel
theorem dX11_wins_105 : decode cX11_wins 105 = .ok (.ifCond .eq 34, 3) := by decide +kernel
theorem dX11_wins_108 : decode cX11_wins 108 = .ok (.iload 7, 2) := by decide +kernel
theorem dX11_wins_110 : decode cX11_wins 110 = .ok (.iconst (-1), 1) := by decide +kernel
theorem dX11_wins_111 : decode cX11_wins 111 = .ok (.if_icmp .eq 15, 3) := by decide +kernel
theorem dX11_wins_114 : decode cX11_wins 114 = .ok (.aload_n 0, 1) := by decide +kernel
theorem dX11_wins_115 : decode cX11_wins 115 = .ok (.getfield 78, 3) := by decide +kernel
theorem dX11_wins_118 : decode cX11_wins 118 = .ok (.getfield 241, 3) := by decide +kernel
theorem dX11_wins_121 : decode cX11_wins 121 = .ok (.iload 8, 2) := by decide +kernel
theorem dX11_wins_123 : decode cX11_wins 123 = .ok (.if_icmp .ge 16, 3) := by decide +kernel
theorem dX11_wins_126 : decode cX11_wins 126 = .ok (.iload 9, 2) := by decide +kernel
theorem dX11_wins_128 : decode cX11_wins 128 = .ok (.istore 7, 2) := by decide +kernel
theorem dX11_wins_130 : decode cX11_wins 130 = .ok (.aload_n 0, 1) := by decide +kernel
theorem dX11_wins_131 : decode cX11_wins 131 = .ok (.getfield 78, 3) := by decide +kernel
theorem dX11_wins_134 : decode cX11_wins 134 = .ok (.getfield 241, 3) := by decide +kernel
theorem dX11_wins_137 : decode cX11_wins 137 = .ok (.istore 8, 2) := by decide +kernel
theorem dX11_wins_139 : decode cX11_wins 139 = .ok (.iinc 9 1, 3) := by decide +kernel
theorem dX11_wins_142 : decode cX11_wins 142 = .ok (.goto (-78), 3) := by decide +kernel
theorem dX11_wins_145 : decode cX11_wins 145 = .ok (.iload 5, 2) := by decide +kernel
theorem dX11_wins_147 : decode cX11_wins 147 = .ok (.iload 7, 2) := by decide +kernel
theorem dX11_wins_149 : decode cX11_wins 149 = .ok (.iload 4, 2) := by decide +kernel
theorem dX11_wins_151 : decode cX11_wins 151 = .ok (.if_icmp .ne 7, 3) := by decide +kernel
theorem dX11_wins_154 : decode cX11_wins 154 = .ok (.iconst 1, 1) := by decide +kernel
theorem dX11_wins_155 : decode cX11_wins 155 = .ok (.goto 4, 3) := by decide +kernel
theorem dX11_wins_158 : decode cX11_wins 158 = .ok (.iconst 0, 1) := by decide +kernel
theorem dX11_wins_159 : decode cX11_wins 159 = .ok (.iadd, 1) := by decide +kernel
theorem dX11_wins_160 : decode cX11_wins 160 = .ok (.istore 5, 2) := by decide +kernel
theorem dX11_wins_162 : decode cX11_wins 162 = .ok (.iinc 6 1, 3) := by decide +kernel
theorem dX11_wins_165 : decode cX11_wins 165 = .ok (.goto (-117), 3) := by decide +kernel
theorem dX11_wins_168 : decode cX11_wins 168 = .ok (.iload 5, 2) := by decide +kernel
theorem dX11_wins_170 : decode cX11_wins 170 = .ok (.ireturn, 1) := by decide +kernel
theorem dX11_drawRace_0 : decode cX11_drawRace 0 = .ok (.aload_n 0, 1) := by decide +kernel
theorem dX11_drawRace_1 : decode cX11_drawRace 1 = .ok (.iload_n 1, 1) := by decide +kernel
theorem dX11_drawRace_2 : decode cX11_drawRace 2 = .ok (.invokevirtual 186, 3) := by decide +kernel
theorem dX11_drawRace_5 : decode cX11_drawRace 5 = .ok (.aload_n 0, 1) := by decide +kernel
theorem dX11_drawRace_6 : decode cX11_drawRace 6 = .ok (.getfield 78, 3) := by decide +kernel
theorem dX11_drawRace_9 : decode cX11_drawRace 9 = .ok (.aload_n 0, 1) := by decide +kernel
theorem dX11_drawRace_10 : decode cX11_drawRace 10 = .ok (.getfield 29, 3) := by decide +kernel
theorem dX11_drawRace_13 : decode cX11_drawRace 13 = .ok (.iload_n 1, 1) := by decide +kernel
theorem dX11_drawRace_14 : decode cX11_drawRace 14 = .ok (.iload_n 2, 1) := by decide +kernel
theorem dX11_drawRace_15 : decode cX11_drawRace 15 = .ok (.invokevirtual 219, 3) := by decide +kernel
theorem dX11_drawRace_18 : decode cX11_drawRace 18 = .ok (.iconst 0, 1) := by decide +kernel
theorem dX11_drawRace_19 : decode cX11_drawRace 19 = .ok (.istore_n 3, 1) := by decide +kernel
theorem dX11_drawRace_20 : decode cX11_drawRace 20 = .ok (.iload_n 3, 1) := by decide +kernel
theorem dX11_drawRace_21 : decode cX11_drawRace 21 = .ok (.bipush 120, 2) := by decide +kernel
theorem dX11_drawRace_23 : decode cX11_drawRace 23 = .ok (.if_icmp .ge 35, 3) := by decide +kernel
theorem dX11_drawRace_26 : decode cX11_drawRace 26 = .ok (.aload_n 0, 1) := by decide +kernel
theorem dX11_drawRace_27 : decode cX11_drawRace 27 = .ok (.getfield 78, 3) := by decide +kernel
theorem dX11_drawRace_30 : decode cX11_drawRace 30 = .ok (.aload_n 0, 1) := by decide +kernel
theorem dX11_drawRace_31 : decode cX11_drawRace 31 = .ok (.getfield 29, 3) := by decide +kernel
theorem dX11_drawRace_34 : decode cX11_drawRace 34 = .ok (.invokevirtual 226, 3) := by decide +kernel
theorem dX11_drawRace_37 : decode cX11_drawRace 37 = .ok (.ifCond .eq 21, 3) := by decide +kernel
theorem dX11_drawRace_40 : decode cX11_drawRace 40 = .ok (.aload_n 0, 1) := by decide +kernel
theorem dX11_drawRace_41 : decode cX11_drawRace 41 = .ok (.getfield 78, 3) := by decide +kernel
theorem dX11_drawRace_44 : decode cX11_drawRace 44 = .ok (.aload_n 0, 1) := by decide +kernel
theorem dX11_drawRace_45 : decode cX11_drawRace 45 = .ok (.getfield 48, 3) := by decide +kernel
theorem dX11_drawRace_48 : decode cX11_drawRace 48 = .ok (.iconst 1, 1) := by decide +kernel
theorem dX11_drawRace_49 : decode cX11_drawRace 49 = .ok (.invokevirtual 233, 3) := by decide +kernel
theorem dX11_drawRace_52 : decode cX11_drawRace 52 = .ok (.iinc 3 1, 3) := by decide +kernel
theorem dX11_drawRace_55 : decode cX11_drawRace 55 = .ok (.goto (-35), 3) := by decide +kernel
theorem dX11_drawRace_58 : decode cX11_drawRace 58 = .ok (.aload_n 0, 1) := by decide +kernel
theorem dX11_drawRace_59 : decode cX11_drawRace 59 = .ok (.getfield 78, 3) := by decide +kernel
theorem dX11_drawRace_62 : decode cX11_drawRace 62 = .ok (.invokevirtual 253, 3) := by decide +kernel
theorem dX11_drawRace_65 : decode cX11_drawRace 65 = .ok (.ifCond .ne 7, 3) := by decide +kernel
theorem dX11_drawRace_68 : decode cX11_drawRace 68 = .ok (.iconst 1, 1) := by decide +kernel
theorem dX11_drawRace_69 : decode cX11_drawRace 69 = .ok (.goto 4, 3) := by decide +kernel
theorem dX11_drawRace_72 : decode cX11_drawRace 72 = .ok (.iconst 0, 1) := by decide +kernel
theorem dX11_drawRace_73 : decode cX11_drawRace 73 = .ok (.ireturn, 1) := by decide +kernel
theorem dX11_beats_0 : decode cX11_beats 0 = .ok (.iload_n 1, 1) := by decide +kernel
theorem dX11_beats_1 : decode cX11_beats 1 = .ok (.ifCond .lt 25, 3) := by decide +kernel
theorem dX11_beats_4 : decode cX11_beats 4 = .ok (.aload_n 0, 1) := by decide +kernel
theorem dX11_beats_5 : decode cX11_beats 5 = .ok (.iload_n 2, 1) := by decide +kernel
theorem dX11_beats_6 : decode cX11_beats 6 = .ok (.iload_n 3, 1) := by decide +kernel
theorem dX11_beats_7 : decode cX11_beats 7 = .ok (.invokevirtual 203, 3) := by decide +kernel
theorem dX11_beats_10 : decode cX11_beats 10 = .ok (.ifCond .eq 16, 3) := by decide +kernel
theorem dX11_beats_13 : decode cX11_beats 13 = .ok (.iload 4, 2) := by decide +kernel
theorem dX11_beats_15 : decode cX11_beats 15 = .ok (.ifCond .lt 11, 3) := by decide +kernel
theorem dX11_beats_18 : decode cX11_beats 18 = .ok (.iload 4, 2) := by decide +kernel
theorem dX11_beats_20 : decode cX11_beats 20 = .ok (.ldc_w 332, 3) := by decide +kernel
theorem dX11_beats_23 : decode cX11_beats 23 = .ok (.if_icmp .le 5, 3) := by decide +kernel
theorem dX11_beats_26 : decode cX11_beats 26 = .ok (.iconst (-1), 1) := by decide +kernel
theorem dX11_beats_27 : decode cX11_beats 27 = .ok (.ireturn, 1) := by decide +kernel
theorem dX11_beats_28 : decode cX11_beats 28 = .ok (.aload_n 0, 1) := by decide +kernel
theorem dX11_beats_29 : decode cX11_beats 29 = .ok (.getfield 78, 3) := by decide +kernel
theorem dX11_beats_32 : decode cX11_beats 32 = .ok (.iload_n 1, 1) := by decide +kernel
theorem dX11_beats_33 : decode cX11_beats 33 = .ok (.i2l, 1) := by decide +kernel
theorem dX11_beats_34 : decode cX11_beats 34 = .ok (.putfield 128, 3) := by decide +kernel
theorem dX11_beats_37 : decode cX11_beats 37 = .ok (.iconst 0, 1) := by decide +kernel
theorem dX11_beats_38 : decode cX11_beats 38 = .ok (.istore 5, 2) := by decide +kernel
theorem dX11_beats_40 : decode cX11_beats 40 = .ok (.iconst 0, 1) := by decide +kernel
theorem dX11_beats_41 : decode cX11_beats 41 = .ok (.istore 6, 2) := by decide +kernel
theorem dX11_beats_43 : decode cX11_beats 43 = .ok (.iload 6, 2) := by decide +kernel
theorem dX11_beats_45 : decode cX11_beats 45 = .ok (.bipush 10, 2) := by decide +kernel
theorem dX11_beats_47 : decode cX11_beats 47 = .ok (.if_icmp .ge 33, 3) := by decide +kernel
theorem dX11_beats_50 : decode cX11_beats 50 = .ok (.aload_n 0, 1) := by decide +kernel
theorem dX11_beats_51 : decode cX11_beats 51 = .ok (.iload_n 2, 1) := by decide +kernel
theorem dX11_beats_52 : decode cX11_beats 52 = .ok (.iload_n 3, 1) := by decide +kernel
theorem dX11_beats_53 : decode cX11_beats 53 = .ok (.invokevirtual 351, 3) := by decide +kernel
theorem dX11_beats_56 : decode cX11_beats 56 = .ok (.ifCond .eq 18, 3) := by decide +kernel
theorem dX11_beats_59 : decode cX11_beats 59 = .ok (.aload_n 0, 1) := by decide +kernel
theorem dX11_beats_60 : decode cX11_beats 60 = .ok (.getfield 78, 3) := by decide +kernel
theorem dX11_beats_63 : decode cX11_beats 63 = .ok (.getfield 241, 3) := by decide +kernel
theorem dX11_beats_66 : decode cX11_beats 66 = .ok (.iload 4, 2) := by decide +kernel
theorem dX11_beats_68 : decode cX11_beats 68 = .ok (.if_icmp .gt 6, 3) := by decide +kernel
theorem dX11_beats_71 : decode cX11_beats 71 = .ok (.iinc 5 1, 3) := by decide +kernel
theorem dX11_beats_74 : decode cX11_beats 74 = .ok (.iinc 6 1, 3) := by decide +kernel
theorem dX11_beats_77 : decode cX11_beats 77 = .ok (.goto (-34), 3) := by decide +kernel
theorem dX11_beats_80 : decode cX11_beats 80 = .ok (.iload 5, 2) := by decide +kernel
theorem dX11_beats_82 : decode cX11_beats 82 = .ok (.ireturn, 1) := by decide +kernel
theorem dX11_led_0 : decode cX11_led 0 = .ok (.aload_n 0, 1) := by decide +kernel
theorem dX11_led_1 : decode cX11_led 1 = .ok (.iload_n 1, 1) := by decide +kernel
theorem dX11_led_2 : decode cX11_led 2 = .ok (.iload_n 2, 1) := by decide +kernel
theorem dX11_led_3 : decode cX11_led 3 = .ok (.invokevirtual 203, 3) := by decide +kernel
theorem dX11_led_6 : decode cX11_led 6 = .ok (.ifCond .eq 37, 3) := by decide +kernel
theorem dX11_led_9 : decode cX11_led 9 = .ok (.iload_n 3, 1) := by decide +kernel
theorem dX11_led_10 : decode cX11_led 10 = .ok (.ifCond .lt 33, 3) := by decide +kernel
theorem dX11_led_13 : decode cX11_led 13 = .ok (.iload_n 3, 1) := by decide +kernel
theorem dX11_led_14 : decode cX11_led 14 = .ok (.aload_n 0, 1) := by decide +kernel
theorem dX11_led_15 : decode cX11_led 15 = .ok (.getfield 29, 3) := by decide +kernel
theorem dX11_led_18 : decode cX11_led 18 = .ok (.aload_n 0, 1) := by decide +kernel
theorem dX11_led_19 : decode cX11_led 19 = .ok (.getfield 29, 3) := by decide +kernel
theorem dX11_led_22 : decode cX11_led 22 = .ok (.iconst 0, 1) := by decide +kernel
theorem dX11_led_23 : decode cX11_led 23 = .ok (.invokevirtual 271, 3) := by decide +kernel
theorem dX11_led_26 : decode cX11_led 26 = .ok (.invokevirtual 216, 3) := by decide +kernel
theorem dX11_led_29 : decode cX11_led 29 = .ok (.if_icmp .gt 14, 3) := by decide +kernel
theorem dX11_led_32 : decode cX11_led 32 = .ok (.iload 4, 2) := by decide +kernel
theorem dX11_led_34 : decode cX11_led 34 = .ok (.ifCond .lt 9, 3) := by decide +kernel
theorem dX11_led_37 : decode cX11_led 37 = .ok (.iload 4, 2) := by decide +kernel
theorem dX11_led_39 : decode cX11_led 39 = .ok (.iconst 2, 1) := by decide +kernel
theorem dX11_led_40 : decode cX11_led 40 = .ok (.if_icmp .le 5, 3) := by decide +kernel
theorem dX11_led_43 : decode cX11_led 43 = .ok (.iconst (-1), 1) := by decide +kernel
theorem dX11_led_44 : decode cX11_led 44 = .ok (.ireturn, 1) := by decide +kernel
theorem dX11_led_45 : decode cX11_led 45 = .ok (.aload_n 0, 1) := by decide +kernel
theorem dX11_led_46 : decode cX11_led 46 = .ok (.iload_n 1, 1) := by decide +kernel
theorem dX11_led_47 : decode cX11_led 47 = .ok (.iload_n 2, 1) := by decide +kernel
theorem dX11_led_48 : decode cX11_led 48 = .ok (.iload_n 3, 1) := by decide +kernel
theorem dX11_led_49 : decode cX11_led 49 = .ok (.invokevirtual 206, 3) := by decide +kernel
theorem dX11_led_52 : decode cX11_led 52 = .ok (.aload_n 0, 1) := by decide +kernel
theorem dX11_led_53 : decode cX11_led 53 = .ok (.iload 4, 2) := by decide +kernel
theorem dX11_led_55 : decode cX11_led 55 = .ok (.invokevirtual 213, 3) := by decide +kernel
theorem dX11_led_58 : decode cX11_led 58 = .ok (.ireturn, 1) := by decide +kernel
theorem dX11_rests_0 : decode cX11_rests 0 = .ok (.aload_n 0, 1) := by decide +kernel
theorem dX11_rests_1 : decode cX11_rests 1 = .ok (.iload_n 1, 1) := by decide +kernel
theorem dX11_rests_2 : decode cX11_rests 2 = .ok (.invokevirtual 348, 3) := by decide +kernel
theorem dX11_rests_5 : decode cX11_rests 5 = .ok (.ifCond .eq 11, 3) := by decide +kernel
theorem dX11_rests_8 : decode cX11_rests 8 = .ok (.aload_n 0, 1) := by decide +kernel
theorem dX11_rests_9 : decode cX11_rests 9 = .ok (.iload_n 2, 1) := by decide +kernel
theorem dX11_rests_10 : decode cX11_rests 10 = .ok (.invokevirtual 354, 3) := by decide +kernel
theorem dX11_rests_13 : decode cX11_rests 13 = .ok (.ifCond .ne 5, 3) := by decide +kernel
theorem dX11_rests_16 : decode cX11_rests 16 = .ok (.iconst (-1), 1) := by decide +kernel
theorem dX11_rests_17 : decode cX11_rests 17 = .ok (.ireturn, 1) := by decide +kernel
theorem dX11_rests_18 : decode cX11_rests 18 = .ok (.aload_n 0, 1) := by decide +kernel
theorem dX11_rests_19 : decode cX11_rests 19 = .ok (.iload_n 1, 1) := by decide +kernel
theorem dX11_rests_20 : decode cX11_rests 20 = .ok (.iload_n 2, 1) := by decide +kernel
theorem dX11_rests_21 : decode cX11_rests 21 = .ok (.invokevirtual 357, 3) := by decide +kernel
theorem dX11_rests_24 : decode cX11_rests 24 = .ok (.iconst 0, 1) := by decide +kernel
theorem dX11_rests_25 : decode cX11_rests 25 = .ok (.istore_n 3, 1) := by decide +kernel
theorem dX11_rests_26 : decode cX11_rests 26 = .ok (.iconst 0, 1) := by decide +kernel
theorem dX11_rests_27 : decode cX11_rests 27 = .ok (.istore 4, 2) := by decide +kernel
theorem dX11_rests_29 : decode cX11_rests 29 = .ok (.iload 4, 2) := by decide +kernel
theorem dX11_rests_31 : decode cX11_rests 31 = .ok (.bipush 32, 2) := by decide +kernel
theorem dX11_rests_33 : decode cX11_rests 33 = .ok (.if_icmp .ge 29, 3) := by decide +kernel
theorem dX11_rests_36 : decode cX11_rests 36 = .ok (.iload_n 3, 1) := by decide +kernel
theorem dX11_rests_37 : decode cX11_rests 37 = .ok (.aload_n 0, 1) := by decide +kernel
theorem dX11_rests_38 : decode cX11_rests 38 = .ok (.getfield 107, 3) := by decide +kernel
theorem dX11_rests_41 : decode cX11_rests 41 = .ok (.iload 4, 2) := by decide +kernel
theorem dX11_rests_43 : decode cX11_rests 43 = .ok (.invokevirtual 361, 3) := by decide +kernel
theorem dX11_rests_46 : decode cX11_rests 46 = .ok (.ifCond .eq 7, 3) := by decide +kernel
theorem dX11_rests_49 : decode cX11_rests 49 = .ok (.iconst 1, 1) := by decide +kernel
theorem dX11_rests_50 : decode cX11_rests 50 = .ok (.goto 4, 3) := by decide +kernel
theorem dX11_rests_53 : decode cX11_rests 53 = .ok (.iconst 0, 1) := by decide +kernel
theorem dX11_rests_54 : decode cX11_rests 54 = .ok (.iadd, 1) := by decide +kernel
theorem dX11_rests_55 : decode cX11_rests 55 = .ok (.istore_n 3, 1) := by decide +kernel
theorem dX11_rests_56 : decode cX11_rests 56 = .ok (.iinc 4 1, 3) := by decide +kernel
theorem dX11_rests_59 : decode cX11_rests 59 = .ok (.goto (-30), 3) := by decide +kernel
theorem dX11_rests_62 : decode cX11_rests 62 = .ok (.iload_n 3, 1) := by decide +kernel
theorem dX11_rests_63 : decode cX11_rests 63 = .ok (.ireturn, 1) := by decide +kernel
theorem dX11_rest_0 : decode cX11_rest 0 = .ok (.aload_n 0, 1) := by decide +kernel
theorem dX11_rest_1 : decode cX11_rest 1 = .ok (.iload_n 1, 1) := by decide +kernel
theorem dX11_rest_2 : decode cX11_rest 2 = .ok (.invokevirtual 348, 3) := by decide +kernel
theorem dX11_rest_5 : decode cX11_rest 5 = .ok (.ifCond .eq 15, 3) := by decide +kernel
theorem dX11_rest_8 : decode cX11_rest 8 = .ok (.aload_n 0, 1) := by decide +kernel
theorem dX11_rest_9 : decode cX11_rest 9 = .ok (.iload_n 2, 1) := by decide +kernel
theorem dX11_rest_10 : decode cX11_rest 10 = .ok (.invokevirtual 354, 3) := by decide +kernel
theorem dX11_rest_13 : decode cX11_rest 13 = .ok (.ifCond .eq 7, 3) := by decide +kernel
theorem dX11_rest_16 : decode cX11_rest 16 = .ok (.iload_n 3, 1) := by decide +kernel
theorem dX11_rest_17 : decode cX11_rest 17 = .ok (.ifCond .ge 5, 3) := by decide +kernel
theorem dX11_rest_20 : decode cX11_rest 20 = .ok (.iconst (-1), 1) := by decide +kernel
theorem dX11_rest_21 : decode cX11_rest 21 = .ok (.ireturn, 1) := by decide +kernel
theorem dX11_rest_22 : decode cX11_rest 22 = .ok (.aload_n 0, 1) := by decide +kernel
theorem dX11_rest_23 : decode cX11_rest 23 = .ok (.iload_n 1, 1) := by decide +kernel
theorem dX11_rest_24 : decode cX11_rest 24 = .ok (.iload_n 2, 1) := by decide +kernel
theorem dX11_rest_25 : decode cX11_rest 25 = .ok (.invokevirtual 357, 3) := by decide +kernel
theorem dX11_rest_28 : decode cX11_rest 28 = .ok (.iconst 0, 1) := by decide +kernel
theorem dX11_rest_29 : decode cX11_rest 29 = .ok (.istore 4, 2) := by decide +kernel
theorem dX11_rest_31 : decode cX11_rest 31 = .ok (.iconst 0, 1) := by decide +kernel
theorem dX11_rest_32 : decode cX11_rest 32 = .ok (.istore 5, 2) := by decide +kernel
theorem dX11_rest_34 : decode cX11_rest 34 = .ok (.iload 5, 2) := by decide +kernel
theorem dX11_rest_36 : decode cX11_rest 36 = .ok (.bipush 32, 2) := by decide +kernel
theorem dX11_rest_38 : decode cX11_rest 38 = .ok (.if_icmp .ge 49, 3) := by decide +kernel
theorem dX11_rest_41 : decode cX11_rest 41 = .ok (.aload_n 0, 1) := by decide +kernel
theorem dX11_rest_42 : decode cX11_rest 42 = .ok (.getfield 107, 3) := by decide +kernel
theorem dX11_rest_45 : decode cX11_rest 45 = .ok (.iload 5, 2) := by decide +kernel
theorem dX11_rest_47 : decode cX11_rest 47 = .ok (.invokevirtual 361, 3) := by decide +kernel
theorem dX11_rest_50 : decode cX11_rest 50 = .ok (.istore 6, 2) := by decide +kernel
theorem dX11_rest_52 : decode cX11_rest 52 = .ok (.iload 6, 2) := by decide +kernel
theorem dX11_rest_54 : decode cX11_rest 54 = .ok (.ifCond .eq 12, 3) := by decide +kernel
theorem dX11_rest_57 : decode cX11_rest 57 = .ok (.iload 4, 2) := by decide +kernel
theorem dX11_rest_59 : decode cX11_rest 59 = .ok (.iload_n 3, 1) := by decide +kernel
theorem dX11_rest_60 : decode cX11_rest 60 = .ok (.if_icmp .ne 6, 3) := by decide +kernel
theorem dX11_rest_63 : decode cX11_rest 63 = .ok (.iload 5, 2) := by decide +kernel
theorem dX11_rest_65 : decode cX11_rest 65 = .ok (.ireturn, 1) := by decide +kernel
theorem dX11_rest_66 : decode cX11_rest 66 = .ok (.iload 4, 2) := by decide +kernel
theorem dX11_rest_68 : decode cX11_rest 68 = .ok (.iload 6, 2) := by decide +kernel
theorem dX11_rest_70 : decode cX11_rest 70 = .ok (.ifCond .eq 7, 3) := by decide +kernel
theorem dX11_rest_73 : decode cX11_rest 73 = .ok (.iconst 1, 1) := by decide +kernel
theorem dX11_rest_74 : decode cX11_rest 74 = .ok (.goto 4, 3) := by decide +kernel
theorem dX11_rest_77 : decode cX11_rest 77 = .ok (.iconst 0, 1) := by decide +kernel
theorem dX11_rest_78 : decode cX11_rest 78 = .ok (.iadd, 1) := by decide +kernel
theorem dX11_rest_79 : decode cX11_rest 79 = .ok (.istore 4, 2) := by decide +kernel
theorem dX11_rest_81 : decode cX11_rest 81 = .ok (.iinc 5 1, 3) := by decide +kernel
theorem dX11_rest_84 : decode cX11_rest 84 = .ok (.goto (-50), 3) := by decide +kernel
theorem dX11_rest_87 : decode cX11_rest 87 = .ok (.bipush (-2), 2) := by decide +kernel
theorem dX11_rest_89 : decode cX11_rest 89 = .ok (.ireturn, 1) := by decide +kernel
theorem dX11_corner_0 : decode cX11_corner 0 = .ok (.aload_n 0, 1) := by decide +kernel
theorem dX11_corner_1 : decode cX11_corner 1 = .ok (.iload_n 1, 1) := by decide +kernel
theorem dX11_corner_2 : decode cX11_corner 2 = .ok (.invokevirtual 348, 3) := by decide +kernel
theorem dX11_corner_5 : decode cX11_corner 5 = .ok (.ifCond .eq 18, 3) := by decide +kernel
theorem dX11_corner_8 : decode cX11_corner 8 = .ok (.aload_n 0, 1) := by decide +kernel
theorem dX11_corner_9 : decode cX11_corner 9 = .ok (.iload_n 2, 1) := by decide +kernel
theorem dX11_corner_10 : decode cX11_corner 10 = .ok (.invokevirtual 354, 3) := by decide +kernel
theorem dX11_corner_13 : decode cX11_corner 13 = .ok (.ifCond .eq 10, 3) := by decide +kernel
theorem dX11_corner_16 : decode cX11_corner 16 = .ok (.iload_n 3, 1) := by decide +kernel
theorem dX11_corner_17 : decode cX11_corner 17 = .ok (.invokestatic 283, 3) := by decide +kernel
theorem dX11_corner_20 : decode cX11_corner 20 = .ok (.ifCond .ne 5, 3) := by decide +kernel
theorem dX11_corner_23 : decode cX11_corner 23 = .ok (.iconst (-1), 1) := by decide +kernel
theorem dX11_corner_24 : decode cX11_corner 24 = .ok (.ireturn, 1) := by decide +kernel
theorem dX11_corner_25 : decode cX11_corner 25 = .ok (.aload_n 0, 1) := by decide +kernel
theorem dX11_corner_26 : decode cX11_corner 26 = .ok (.iload_n 1, 1) := by decide +kernel
theorem dX11_corner_27 : decode cX11_corner 27 = .ok (.iload_n 2, 1) := by decide +kernel
theorem dX11_corner_28 : decode cX11_corner 28 = .ok (.invokevirtual 357, 3) := by decide +kernel
theorem dX11_corner_31 : decode cX11_corner 31 = .ok (.aload_n 0, 1) := by decide +kernel
theorem dX11_corner_32 : decode cX11_corner 32 = .ok (.getfield 107, 3) := by decide +kernel
theorem dX11_corner_35 : decode cX11_corner 35 = .ok (.invokevirtual 364, 3) := by decide +kernel
theorem dX11_corner_38 : decode cX11_corner 38 = .ok (.istore 4, 2) := by decide +kernel
theorem dX11_corner_40 : decode cX11_corner 40 = .ok (.iload_n 3, 1) := by decide +kernel
theorem dX11_corner_41 : decode cX11_corner 41 = .ok (.ifCond .ne 15, 3) := by decide +kernel
theorem dX11_corner_44 : decode cX11_corner 44 = .ok (.aload_n 0, 1) := by decide +kernel
theorem dX11_corner_45 : decode cX11_corner 45 = .ok (.getfield 107, 3) := by decide +kernel
theorem dX11_corner_48 : decode cX11_corner 48 = .ok (.iload 4, 2) := by decide +kernel
theorem dX11_corner_50 : decode cX11_corner 50 = .ok (.invokevirtual 368, 3) := by decide +kernel
theorem dX11_corner_53 : decode cX11_corner 53 = .ok (.goto 5, 3) := by decide +kernel
theorem dX11_corner_56 : decode cX11_corner 56 = .ok (.iload 4, 2) := by decide +kernel
theorem dX11_corner_58 : decode cX11_corner 58 = .ok (.ireturn, 1) := by decide +kernel
theorem dX11_layTurn_0 : decode cX11_layTurn 0 = .ok (.aload_n 0, 1) := by decide +kernel
theorem dX11_layTurn_1 : decode cX11_layTurn 1 = .ok (.getfield 107, 3) := by decide +kernel
theorem dX11_layTurn_4 : decode cX11_layTurn 4 = .ok (.iload_n 1, 1) := by decide +kernel
theorem dX11_layTurn_5 : decode cX11_layTurn 5 = .ok (.putfield 371, 3) := by decide +kernel
theorem dX11_layTurn_8 : decode cX11_layTurn 8 = .ok (.iconst 0, 1) := by decide +kernel
theorem dX11_layTurn_9 : decode cX11_layTurn 9 = .ok (.istore_n 3, 1) := by decide +kernel
theorem dX11_layTurn_10 : decode cX11_layTurn 10 = .ok (.iload_n 3, 1) := by decide +kernel
theorem dX11_layTurn_11 : decode cX11_layTurn 11 = .ok (.aload_n 0, 1) := by decide +kernel
theorem dX11_layTurn_12 : decode cX11_layTurn 12 = .ok (.getfield 29, 3) := by decide +kernel
theorem dX11_layTurn_15 : decode cX11_layTurn 15 = .ok (.iconst 1, 1) := by decide +kernel
theorem dX11_layTurn_16 : decode cX11_layTurn 16 = .ok (.invokevirtual 271, 3) := by decide +kernel
theorem dX11_layTurn_19 : decode cX11_layTurn 19 = .ok (.if_icmp .ge 101, 3) := by decide +kernel
theorem dX11_layTurn_22 : decode cX11_layTurn 22 = .ok (.iload_n 3, 1) := by decide +kernel
theorem dX11_layTurn_23 : decode cX11_layTurn 23 = .ok (.iconst 5, 1) := by decide +kernel
theorem dX11_layTurn_24 : decode cX11_layTurn 24 = .ok (.if_icmp .ge 96, 3) := by decide +kernel
theorem dX11_layTurn_27 : decode cX11_layTurn 27 = .ok (.aload_n 0, 1) := by decide +kernel
theorem dX11_layTurn_28 : decode cX11_layTurn 28 = .ok (.iload_n 3, 1) := by decide +kernel
theorem dX11_layTurn_29 : decode cX11_layTurn 29 = .ok (.invokevirtual 186, 3) := by decide +kernel
theorem dX11_layTurn_32 : decode cX11_layTurn 32 = .ok (.aload_n 0, 1) := by decide +kernel
theorem dX11_layTurn_33 : decode cX11_layTurn 33 = .ok (.getfield 48, 3) := by decide +kernel
theorem dX11_layTurn_36 : decode cX11_layTurn 36 = .ok (.iload_n 2, 1) := by decide +kernel
theorem dX11_layTurn_37 : decode cX11_layTurn 37 = .ok (.iconst 0, 1) := by decide +kernel
theorem dX11_layTurn_38 : decode cX11_layTurn 38 = .ok (.aload_n 0, 1) := by decide +kernel
theorem dX11_layTurn_39 : decode cX11_layTurn 39 = .ok (.getfield 29, 3) := by decide +kernel
theorem dX11_layTurn_42 : decode cX11_layTurn 42 = .ok (.iconst 1, 1) := by decide +kernel
theorem dX11_layTurn_43 : decode cX11_layTurn 43 = .ok (.iload_n 3, 1) := by decide +kernel
theorem dX11_layTurn_44 : decode cX11_layTurn 44 = .ok (.iconst 0, 1) := by decide +kernel
theorem dX11_layTurn_45 : decode cX11_layTurn 45 = .ok (.invokevirtual 176, 3) := by decide +kernel
theorem dX11_layTurn_48 : decode cX11_layTurn 48 = .ok (.aload_n 0, 1) := by decide +kernel
theorem dX11_layTurn_49 : decode cX11_layTurn 49 = .ok (.getfield 29, 3) := by decide +kernel
theorem dX11_layTurn_52 : decode cX11_layTurn 52 = .ok (.iconst 1, 1) := by decide +kernel
theorem dX11_layTurn_53 : decode cX11_layTurn 53 = .ok (.iload_n 3, 1) := by decide +kernel
theorem dX11_layTurn_54 : decode cX11_layTurn 54 = .ok (.iconst 1, 1) := by decide +kernel
theorem dX11_layTurn_55 : decode cX11_layTurn 55 = .ok (.invokevirtual 176, 3) := by decide +kernel
theorem dX11_layTurn_58 : decode cX11_layTurn 58 = .ok (.invokevirtual 189, 3) := by decide +kernel
theorem dX11_layTurn_61 : decode cX11_layTurn 61 = .ok (.aload_n 0, 1) := by decide +kernel
theorem dX11_layTurn_62 : decode cX11_layTurn 62 = .ok (.getfield 107, 3) := by decide +kernel
theorem dX11_layTurn_65 : decode cX11_layTurn 65 = .ok (.getfield 374, 3) := by decide +kernel
theorem dX11_layTurn_68 : decode cX11_layTurn 68 = .ok (.iload_n 3, 1) := by decide +kernel
theorem dX11_layTurn_69 : decode cX11_layTurn 69 = .ok (.aload_n 0, 1) := by decide +kernel
theorem dX11_layTurn_70 : decode cX11_layTurn 70 = .ok (.getfield 29, 3) := by decide +kernel
theorem dX11_layTurn_73 : decode cX11_layTurn 73 = .ok (.getfield 193, 3) := by decide +kernel
theorem dX11_layTurn_76 : decode cX11_layTurn 76 = .ok (.bipush 6, 2) := by decide +kernel
theorem dX11_layTurn_78 : decode cX11_layTurn 78 = .ok (.iconst 0, 1) := by decide +kernel
theorem dX11_layTurn_79 : decode cX11_layTurn 79 = .ok (.sipush 999, 3) := by decide +kernel
theorem dX11_layTurn_82 : decode cX11_layTurn 82 = .ok (.iconst 5, 1) := by decide +kernel
theorem dX11_layTurn_83 : decode cX11_layTurn 83 = .ok (.invokevirtual 377, 3) := by decide +kernel
theorem dX11_layTurn_86 : decode cX11_layTurn 86 = .ok (.iastore, 1) := by decide +kernel
theorem dX11_layTurn_87 : decode cX11_layTurn 87 = .ok (.aload_n 0, 1) := by decide +kernel
theorem dX11_layTurn_88 : decode cX11_layTurn 88 = .ok (.getfield 107, 3) := by decide +kernel
theorem dX11_layTurn_91 : decode cX11_layTurn 91 = .ok (.getfield 380, 3) := by decide +kernel
theorem dX11_layTurn_94 : decode cX11_layTurn 94 = .ok (.iload_n 3, 1) := by decide +kernel
theorem dX11_layTurn_95 : decode cX11_layTurn 95 = .ok (.aload_n 0, 1) := by decide +kernel
theorem dX11_layTurn_96 : decode cX11_layTurn 96 = .ok (.getfield 29, 3) := by decide +kernel
theorem dX11_layTurn_99 : decode cX11_layTurn 99 = .ok (.getfield 193, 3) := by decide +kernel
theorem dX11_layTurn_102 : decode cX11_layTurn 102 = .ok (.bipush 7, 2) := by decide +kernel
theorem dX11_layTurn_104 : decode cX11_layTurn 104 = .ok (.iconst 0, 1) := by decide +kernel
theorem dX11_layTurn_105 : decode cX11_layTurn 105 = .ok (.sipush 999, 3) := by decide +kernel
theorem dX11_layTurn_108 : decode cX11_layTurn 108 = .ok (.bipush 6, 2) := by decide +kernel
theorem dX11_layTurn_110 : decode cX11_layTurn 110 = .ok (.invokevirtual 377, 3) := by decide +kernel
theorem dX11_layTurn_113 : decode cX11_layTurn 113 = .ok (.iastore, 1) := by decide +kernel
theorem dX11_layTurn_114 : decode cX11_layTurn 114 = .ok (.iinc 3 1, 3) := by decide +kernel
theorem dX11_layTurn_117 : decode cX11_layTurn 117 = .ok (.goto (-107), 3) := by decide +kernel
theorem dX11_layTurn_120 : decode cX11_layTurn 120 = .ok (.return_, 1) := by decide +kernel
theorem dX11_down_0 : decode cX11_down 0 = .ok (.iconst 1, 1) := by decide +kernel
theorem dX11_down_1 : decode cX11_down 1 = .ok (.aload_n 0, 1) := by decide +kernel
theorem dX11_down_2 : decode cX11_down 2 = .ok (.getfield 29, 3) := by decide +kernel
theorem dX11_down_5 : decode cX11_down 5 = .ok (.iconst 4, 1) := by decide +kernel
theorem dX11_down_6 : decode cX11_down 6 = .ok (.invokevirtual 271, 3) := by decide +kernel
theorem dX11_down_9 : decode cX11_down 9 = .ok (.ishl, 1) := by decide +kernel
theorem dX11_down_10 : decode cX11_down 10 = .ok (.iconst 1, 1) := by decide +kernel
theorem dX11_down_11 : decode cX11_down 11 = .ok (.isub, 1) := by decide +kernel
theorem dX11_down_12 : decode cX11_down 12 = .ok (.istore 5, 2) := by decide +kernel
theorem dX11_down_14 : decode cX11_down 14 = .ok (.iload_n 1, 1) := by decide +kernel
theorem dX11_down_15 : decode cX11_down 15 = .ok (.ifCond .lt 34, 3) := by decide +kernel
theorem dX11_down_18 : decode cX11_down 18 = .ok (.iload_n 1, 1) := by decide +kernel
theorem dX11_down_19 : decode cX11_down 19 = .ok (.bipush 100, 2) := by decide +kernel
theorem dX11_down_21 : decode cX11_down 21 = .ok (.if_icmp .gt 28, 3) := by decide +kernel
theorem dX11_down_24 : decode cX11_down 24 = .ok (.iload_n 2, 1) := by decide +kernel
theorem dX11_down_25 : decode cX11_down 25 = .ok (.iload 5, 2) := by decide +kernel
theorem dX11_down_27 : decode cX11_down 27 = .ok (.iconst (-1), 1) := by decide +kernel
theorem dX11_down_28 : decode cX11_down 28 = .ok (.ixor, 1) := by decide +kernel
theorem dX11_down_29 : decode cX11_down 29 = .ok (.iand, 1) := by decide +kernel
theorem dX11_down_30 : decode cX11_down 30 = .ok (.ifCond .ne 19, 3) := by decide +kernel
theorem dX11_down_33 : decode cX11_down 33 = .ok (.iload_n 3, 1) := by decide +kernel
theorem dX11_down_34 : decode cX11_down 34 = .ok (.iload_n 2, 1) := by decide +kernel
theorem dX11_down_35 : decode cX11_down 35 = .ok (.iconst (-1), 1) := by decide +kernel
theorem dX11_down_36 : decode cX11_down 36 = .ok (.ixor, 1) := by decide +kernel
theorem dX11_down_37 : decode cX11_down 37 = .ok (.iand, 1) := by decide +kernel
theorem dX11_down_38 : decode cX11_down 38 = .ok (.ifCond .ne 11, 3) := by decide +kernel
theorem dX11_down_41 : decode cX11_down 41 = .ok (.iload 4, 2) := by decide +kernel
theorem dX11_down_43 : decode cX11_down 43 = .ok (.invokestatic 283, 3) := by decide +kernel
theorem dX11_down_46 : decode cX11_down 46 = .ok (.ifCond .ne 7, 3) := by decide +kernel
theorem dX11_down_49 : decode cX11_down 49 = .ok (.ldc2_w 383, 3) := by decide +kernel
theorem dX11_down_52 : decode cX11_down 52 = .ok (.lreturn, 1) := by decide +kernel
theorem dX11_down_53 : decode cX11_down 53 = .ok (.iload_n 1, 1) := by decide +kernel
theorem dX11_down_54 : decode cX11_down 54 = .ok (.i2l, 1) := by decide +kernel
theorem dX11_down_55 : decode cX11_down 55 = .ok (.aload_n 0, 1) := by decide +kernel
theorem dX11_down_56 : decode cX11_down 56 = .ok (.iload_n 2, 1) := by decide +kernel
theorem dX11_down_57 : decode cX11_down 57 = .ok (.iload_n 3, 1) := by decide +kernel
theorem dX11_down_58 : decode cX11_down 58 = .ok (.iconst 0, 1) := by decide +kernel
theorem dX11_down_59 : decode cX11_down 59 = .ok (.invokevirtual 385, 3) := by decide +kernel
theorem dX11_down_62 : decode cX11_down 62 = .ok (.lmul, 1) := by decide +kernel
theorem dX11_down_63 : decode cX11_down 63 = .ok (.lstore 6, 2) := by decide +kernel
theorem dX11_down_65 : decode cX11_down 65 = .ok (.lload 6, 2) := by decide +kernel
theorem dX11_down_67 : decode cX11_down 67 = .ok (.bipush 100, 2) := by decide +kernel
theorem dX11_down_69 : decode cX11_down 69 = .ok (.iload_n 1, 1) := by decide +kernel
theorem dX11_down_70 : decode cX11_down 70 = .ok (.isub, 1) := by decide +kernel
theorem dX11_down_71 : decode cX11_down 71 = .ok (.i2l, 1) := by decide +kernel
theorem dX11_down_72 : decode cX11_down 72 = .ok (.aload_n 0, 1) := by decide +kernel
theorem dX11_down_73 : decode cX11_down 73 = .ok (.iload_n 2, 1) := by decide +kernel
theorem dX11_down_74 : decode cX11_down 74 = .ok (.iload_n 3, 1) := by decide +kernel
theorem dX11_down_75 : decode cX11_down 75 = .ok (.iconst 1, 1) := by decide +kernel
theorem dX11_down_76 : decode cX11_down 76 = .ok (.invokevirtual 385, 3) := by decide +kernel
theorem dX11_down_79 : decode cX11_down 79 = .ok (.lmul, 1) := by decide +kernel
theorem dX11_down_80 : decode cX11_down 80 = .ok (.ladd, 1) := by decide +kernel
theorem dX11_down_81 : decode cX11_down 81 = .ok (.lstore 8, 2) := by decide +kernel
theorem dX11_down_83 : decode cX11_down 83 = .ok (.lload 6, 2) := by decide +kernel
theorem dX11_down_85 : decode cX11_down 85 = .ok (.lconst 0, 1) := by decide +kernel
theorem dX11_down_86 : decode cX11_down 86 = .ok (.lcmp, 1) := by decide +kernel
theorem dX11_down_87 : decode cX11_down 87 = .ok (.ifCond .ne 7, 3) := by decide +kernel
theorem dX11_down_90 : decode cX11_down 90 = .ok (.iload 4, 2) := by decide +kernel
theorem dX11_down_92 : decode cX11_down 92 = .ok (.i2l, 1) := by decide +kernel
theorem dX11_down_93 : decode cX11_down 93 = .ok (.lreturn, 1) := by decide +kernel
theorem dX11_down_94 : decode cX11_down 94 = .ok (.lload 8, 2) := by decide +kernel
theorem dX11_down_96 : decode cX11_down 96 = .ok (.lload 6, 2) := by decide +kernel
theorem dX11_down_98 : decode cX11_down 98 = .ok (.invokestatic 389, 3) := by decide +kernel
theorem dX11_down_101 : decode cX11_down 101 = .ok (.lstore 10, 2) := by decide +kernel
theorem dX11_down_103 : decode cX11_down 103 = .ok (.iload 4, 2) := by decide +kernel
theorem dX11_down_105 : decode cX11_down 105 = .ok (.ifCond .ne 8, 3) := by decide +kernel
theorem dX11_down_108 : decode cX11_down 108 = .ok (.lload 6, 2) := by decide +kernel
theorem dX11_down_110 : decode cX11_down 110 = .ok (.goto 5, 3) := by decide +kernel
theorem dX11_down_113 : decode cX11_down 113 = .ok (.lload 8, 2) := by decide +kernel
theorem dX11_down_115 : decode cX11_down 115 = .ok (.lload 10, 2) := by decide +kernel
theorem dX11_down_117 : decode cX11_down 117 = .ok (.lconst 0, 1) := by decide +kernel
theorem dX11_down_118 : decode cX11_down 118 = .ok (.lcmp, 1) := by decide +kernel
theorem dX11_down_119 : decode cX11_down 119 = .ok (.ifCond .le 8, 3) := by decide +kernel
theorem dX11_down_122 : decode cX11_down 122 = .ok (.lload 10, 2) := by decide +kernel
theorem dX11_down_124 : decode cX11_down 124 = .ok (.goto 4, 3) := by decide +kernel
theorem dX11_down_127 : decode cX11_down 127 = .ok (.lconst 1, 1) := by decide +kernel
theorem dX11_down_128 : decode cX11_down 128 = .ok (.ldiv, 1) := by decide +kernel
theorem dX11_down_129 : decode cX11_down 129 = .ok (.lreturn, 1) := by decide +kernel
theorem dX11_chanceToSay_0 : decode cX11_chanceToSay 0 = .ok (.lconst 1, 1) := by decide +kernel
theorem dX11_chanceToSay_1 : decode cX11_chanceToSay 1 = .ok (.lstore 4, 2) := by decide +kernel
theorem dX11_chanceToSay_3 : decode cX11_chanceToSay 3 = .ok (.iconst 0, 1) := by decide +kernel
theorem dX11_chanceToSay_4 : decode cX11_chanceToSay 4 = .ok (.istore 6, 2) := by decide +kernel
theorem dX11_chanceToSay_6 : decode cX11_chanceToSay 6 = .ok (.iload 6, 2) := by decide +kernel
theorem dX11_chanceToSay_8 : decode cX11_chanceToSay 8 = .ok (.aload_n 0, 1) := by decide +kernel
theorem dX11_chanceToSay_9 : decode cX11_chanceToSay 9 = .ok (.getfield 29, 3) := by decide +kernel
theorem dX11_chanceToSay_12 : decode cX11_chanceToSay 12 = .ok (.iconst 4, 1) := by decide +kernel
theorem dX11_chanceToSay_13 : decode cX11_chanceToSay 13 = .ok (.invokevirtual 271, 3) := by decide +kernel
theorem dX11_chanceToSay_16 : decode cX11_chanceToSay 16 = .ok (.if_icmp .ge 57, 3) := by decide +kernel
theorem dX11_chanceToSay_19 : decode cX11_chanceToSay 19 = .ok (.aload_n 0, 1) := by decide +kernel
theorem dX11_chanceToSay_20 : decode cX11_chanceToSay 20 = .ok (.getfield 29, 3) := by decide +kernel
theorem dX11_chanceToSay_23 : decode cX11_chanceToSay 23 = .ok (.iconst 4, 1) := by decide +kernel
theorem dX11_chanceToSay_24 : decode cX11_chanceToSay 24 = .ok (.iload 6, 2) := by decide +kernel
theorem dX11_chanceToSay_26 : decode cX11_chanceToSay 26 = .ok (.iload_n 3, 1) := by decide +kernel
theorem dX11_chanceToSay_27 : decode cX11_chanceToSay 27 = .ok (.invokevirtual 176, 3) := by decide +kernel
theorem dX11_chanceToSay_30 : decode cX11_chanceToSay 30 = .ok (.istore 7, 2) := by decide +kernel
theorem dX11_chanceToSay_32 : decode cX11_chanceToSay 32 = .ok (.iload_n 1, 1) := by decide +kernel
theorem dX11_chanceToSay_33 : decode cX11_chanceToSay 33 = .ok (.iload 6, 2) := by decide +kernel
theorem dX11_chanceToSay_35 : decode cX11_chanceToSay 35 = .ok (.ishr, 1) := by decide +kernel
theorem dX11_chanceToSay_36 : decode cX11_chanceToSay 36 = .ok (.iconst 1, 1) := by decide +kernel
theorem dX11_chanceToSay_37 : decode cX11_chanceToSay 37 = .ok (.iand, 1) := by decide +kernel
theorem dX11_chanceToSay_38 : decode cX11_chanceToSay 38 = .ok (.ifCond .eq 29, 3) := by decide +kernel
theorem dX11_chanceToSay_41 : decode cX11_chanceToSay 41 = .ok (.lload 4, 2) := by decide +kernel
theorem dX11_chanceToSay_43 : decode cX11_chanceToSay 43 = .ok (.iload_n 2, 1) := by decide +kernel
theorem dX11_chanceToSay_44 : decode cX11_chanceToSay 44 = .ok (.iload 6, 2) := by decide +kernel
theorem dX11_chanceToSay_46 : decode cX11_chanceToSay 46 = .ok (.ishr, 1) := by decide +kernel
theorem dX11_chanceToSay_47 : decode cX11_chanceToSay 47 = .ok (.iconst 1, 1) := by decide +kernel
theorem dX11_chanceToSay_48 : decode cX11_chanceToSay 48 = .ok (.iand, 1) := by decide +kernel
theorem dX11_chanceToSay_49 : decode cX11_chanceToSay 49 = .ok (.ifCond .eq 9, 3) := by decide +kernel
theorem dX11_chanceToSay_52 : decode cX11_chanceToSay 52 = .ok (.iload 7, 2) := by decide +kernel
theorem dX11_chanceToSay_54 : decode cX11_chanceToSay 54 = .ok (.i2l, 1) := by decide +kernel
theorem dX11_chanceToSay_55 : decode cX11_chanceToSay 55 = .ok (.goto 9, 3) := by decide +kernel
theorem dX11_chanceToSay_58 : decode cX11_chanceToSay 58 = .ok (.bipush 100, 2) := by decide +kernel
theorem dX11_chanceToSay_60 : decode cX11_chanceToSay 60 = .ok (.iload 7, 2) := by decide +kernel
theorem dX11_chanceToSay_62 : decode cX11_chanceToSay 62 = .ok (.isub, 1) := by decide +kernel
theorem dX11_chanceToSay_63 : decode cX11_chanceToSay 63 = .ok (.i2l, 1) := by decide +kernel
theorem dX11_chanceToSay_64 : decode cX11_chanceToSay 64 = .ok (.lmul, 1) := by decide +kernel
theorem dX11_chanceToSay_65 : decode cX11_chanceToSay 65 = .ok (.lstore 4, 2) := by decide +kernel
theorem dX11_chanceToSay_67 : decode cX11_chanceToSay 67 = .ok (.iinc 6 1, 3) := by decide +kernel
theorem dX11_chanceToSay_70 : decode cX11_chanceToSay 70 = .ok (.goto (-64), 3) := by decide +kernel
theorem dX11_chanceToSay_73 : decode cX11_chanceToSay 73 = .ok (.lload 4, 2) := by decide +kernel
theorem dX11_chanceToSay_75 : decode cX11_chanceToSay 75 = .ok (.lreturn, 1) := by decide +kernel
theorem dX11_commonDivisor_0 : decode cX11_commonDivisor 0 = .ok (.lload_n 0, 1) := by decide +kernel
theorem dX11_commonDivisor_1 : decode cX11_commonDivisor 1 = .ok (.lstore 4, 2) := by decide +kernel
theorem dX11_commonDivisor_3 : decode cX11_commonDivisor 3 = .ok (.lload_n 2, 1) := by decide +kernel
theorem dX11_commonDivisor_4 : decode cX11_commonDivisor 4 = .ok (.lstore 6, 2) := by decide +kernel
theorem dX11_commonDivisor_6 : decode cX11_commonDivisor 6 = .ok (.iconst 0, 1) := by decide +kernel
theorem dX11_commonDivisor_7 : decode cX11_commonDivisor 7 = .ok (.istore 8, 2) := by decide +kernel
theorem dX11_commonDivisor_9 : decode cX11_commonDivisor 9 = .ok (.iload 8, 2) := by decide +kernel
theorem dX11_commonDivisor_11 : decode cX11_commonDivisor 11 = .ok (.bipush 100, 2) := by decide +kernel
theorem dX11_commonDivisor_13 : decode cX11_commonDivisor 13 = .ok (.if_icmp .ge 31, 3) := by decide +kernel
theorem dX11_commonDivisor_16 : decode cX11_commonDivisor 16 = .ok (.lload 6, 2) := by decide +kernel
theorem dX11_commonDivisor_18 : decode cX11_commonDivisor 18 = .ok (.lconst 0, 1) := by decide +kernel
theorem dX11_commonDivisor_19 : decode cX11_commonDivisor 19 = .ok (.lcmp, 1) := by decide +kernel
theorem dX11_commonDivisor_20 : decode cX11_commonDivisor 20 = .ok (.ifCond .eq 24, 3) := by decide +kernel
theorem dX11_commonDivisor_23 : decode cX11_commonDivisor 23 = .ok (.lload 4, 2) := by decide +kernel
theorem dX11_commonDivisor_25 : decode cX11_commonDivisor 25 = .ok (.lload 6, 2) := by decide +kernel
theorem dX11_commonDivisor_27 : decode cX11_commonDivisor 27 = .ok (.lrem, 1) := by decide +kernel
theorem dX11_commonDivisor_28 : decode cX11_commonDivisor 28 = .ok (.lstore 9, 2) := by decide +kernel
theorem dX11_commonDivisor_30 : decode cX11_commonDivisor 30 = .ok (.lload 6, 2) := by decide +kernel
theorem dX11_commonDivisor_32 : decode cX11_commonDivisor 32 = .ok (.lstore 4, 2) := by decide +kernel
theorem dX11_commonDivisor_34 : decode cX11_commonDivisor 34 = .ok (.lload 9, 2) := by decide +kernel
theorem dX11_commonDivisor_36 : decode cX11_commonDivisor 36 = .ok (.lstore 6, 2) := by decide +kernel
theorem dX11_commonDivisor_38 : decode cX11_commonDivisor 38 = .ok (.iinc 8 1, 3) := by decide +kernel
theorem dX11_commonDivisor_41 : decode cX11_commonDivisor 41 = .ok (.goto (-32), 3) := by decide +kernel
theorem dX11_commonDivisor_44 : decode cX11_commonDivisor 44 = .ok (.lload 4, 2) := by decide +kernel
theorem dX11_commonDivisor_46 : decode cX11_commonDivisor 46 = .ok (.lreturn, 1) := by decide +kernel
theorem dX11_errors_0 : decode cX11_errors 0 = .ok (.iload_n 1, 1) := by decide +kernel
theorem dX11_errors_1 : decode cX11_errors 1 = .ok (.ifCond .lt 15, 3) := by decide +kernel
theorem dX11_errors_4 : decode cX11_errors 4 = .ok (.iload_n 1, 1) := by decide +kernel
theorem dX11_errors_5 : decode cX11_errors 5 = .ok (.iconst 5, 1) := by decide +kernel
theorem dX11_errors_6 : decode cX11_errors 6 = .ok (.if_icmp .gt 10, 3) := by decide +kernel
theorem dX11_errors_9 : decode cX11_errors 9 = .ok (.iload_n 2, 1) := by decide +kernel
theorem dX11_errors_10 : decode cX11_errors 10 = .ok (.invokestatic 283, 3) := by decide +kernel
theorem dX11_errors_13 : decode cX11_errors 13 = .ok (.ifCond .ne 5, 3) := by decide +kernel
theorem dX11_errors_16 : decode cX11_errors 16 = .ok (.iconst (-1), 1) := by decide +kernel
theorem dX11_errors_17 : decode cX11_errors 17 = .ok (.ireturn, 1) := by decide +kernel
theorem dX11_errors_18 : decode cX11_errors 18 = .ok (.iload_n 2, 1) := by decide +kernel
theorem dX11_errors_19 : decode cX11_errors 19 = .ok (.ifCond .ne 11, 3) := by decide +kernel
theorem dX11_errors_22 : decode cX11_errors 22 = .ok (.aload_n 0, 1) := by decide +kernel
theorem dX11_errors_23 : decode cX11_errors 23 = .ok (.iload_n 1, 1) := by decide +kernel
theorem dX11_errors_24 : decode cX11_errors 24 = .ok (.invokevirtual 393, 3) := by decide +kernel
theorem dX11_errors_27 : decode cX11_errors 27 = .ok (.goto 8, 3) := by decide +kernel
theorem dX11_errors_30 : decode cX11_errors 30 = .ok (.aload_n 0, 1) := by decide +kernel
theorem dX11_errors_31 : decode cX11_errors 31 = .ok (.iload_n 1, 1) := by decide +kernel
theorem dX11_errors_32 : decode cX11_errors 32 = .ok (.invokevirtual 396, 3) := by decide +kernel
theorem dX11_errors_35 : decode cX11_errors 35 = .ok (.ireturn, 1) := by decide +kernel
theorem dX11_missed_0 : decode cX11_missed 0 = .ok (.iconst 1, 1) := by decide +kernel
theorem dX11_missed_1 : decode cX11_missed 1 = .ok (.aload_n 0, 1) := by decide +kernel
theorem dX11_missed_2 : decode cX11_missed 2 = .ok (.getfield 29, 3) := by decide +kernel
theorem dX11_missed_5 : decode cX11_missed 5 = .ok (.iconst 4, 1) := by decide +kernel
theorem dX11_missed_6 : decode cX11_missed 6 = .ok (.invokevirtual 271, 3) := by decide +kernel
theorem dX11_missed_9 : decode cX11_missed 9 = .ok (.ishl, 1) := by decide +kernel
theorem dX11_missed_10 : decode cX11_missed 10 = .ok (.iconst 1, 1) := by decide +kernel
theorem dX11_missed_11 : decode cX11_missed 11 = .ok (.isub, 1) := by decide +kernel
theorem dX11_missed_12 : decode cX11_missed 12 = .ok (.istore_n 2, 1) := by decide +kernel
theorem dX11_missed_13 : decode cX11_missed 13 = .ok (.lconst 0, 1) := by decide +kernel
theorem dX11_missed_14 : decode cX11_missed 14 = .ok (.lstore_n 3, 1) := by decide +kernel
theorem dX11_missed_15 : decode cX11_missed 15 = .ok (.iconst 0, 1) := by decide +kernel
theorem dX11_missed_16 : decode cX11_missed 16 = .ok (.istore 5, 2) := by decide +kernel
theorem dX11_missed_18 : decode cX11_missed 18 = .ok (.iload 5, 2) := by decide +kernel
theorem dX11_missed_20 : decode cX11_missed 20 = .ok (.iload_n 2, 1) := by decide +kernel
theorem dX11_missed_21 : decode cX11_missed 21 = .ok (.if_icmp .gt 33, 3) := by decide +kernel
theorem dX11_missed_24 : decode cX11_missed 24 = .ok (.lload_n 3, 1) := by decide +kernel
theorem dX11_missed_25 : decode cX11_missed 25 = .ok (.iload 5, 2) := by decide +kernel
theorem dX11_missed_27 : decode cX11_missed 27 = .ok (.invokestatic 399, 3) := by decide +kernel
theorem dX11_missed_30 : decode cX11_missed 30 = .ok (.iload_n 1, 1) := by decide +kernel
theorem dX11_missed_31 : decode cX11_missed 31 = .ok (.if_icmp .ge 14, 3) := by decide +kernel
theorem dX11_missed_34 : decode cX11_missed 34 = .ok (.aload_n 0, 1) := by decide +kernel
theorem dX11_missed_35 : decode cX11_missed 35 = .ok (.iload_n 2, 1) := by decide +kernel
theorem dX11_missed_36 : decode cX11_missed 36 = .ok (.iload 5, 2) := by decide +kernel
theorem dX11_missed_38 : decode cX11_missed 38 = .ok (.iconst 0, 1) := by decide +kernel
theorem dX11_missed_39 : decode cX11_missed 39 = .ok (.invokevirtual 385, 3) := by decide +kernel
theorem dX11_missed_42 : decode cX11_missed 42 = .ok (.goto 4, 3) := by decide +kernel
theorem dX11_missed_45 : decode cX11_missed 45 = .ok (.lconst 0, 1) := by decide +kernel
theorem dX11_missed_46 : decode cX11_missed 46 = .ok (.ladd, 1) := by decide +kernel
theorem dX11_missed_47 : decode cX11_missed 47 = .ok (.lstore_n 3, 1) := by decide +kernel
theorem dX11_missed_48 : decode cX11_missed 48 = .ok (.iinc 5 1, 3) := by decide +kernel
theorem dX11_missed_51 : decode cX11_missed 51 = .ok (.goto (-33), 3) := by decide +kernel
theorem dX11_missed_54 : decode cX11_missed 54 = .ok (.lload_n 3, 1) := by decide +kernel
theorem dX11_missed_55 : decode cX11_missed 55 = .ok (.l2i, 1) := by decide +kernel
theorem dX11_missed_56 : decode cX11_missed 56 = .ok (.ireturn, 1) := by decide +kernel
theorem dX11_wronged_0 : decode cX11_wronged 0 = .ok (.iconst 1, 1) := by decide +kernel
theorem dX11_wronged_1 : decode cX11_wronged 1 = .ok (.aload_n 0, 1) := by decide +kernel
theorem dX11_wronged_2 : decode cX11_wronged 2 = .ok (.getfield 29, 3) := by decide +kernel
theorem dX11_wronged_5 : decode cX11_wronged 5 = .ok (.iconst 4, 1) := by decide +kernel
theorem dX11_wronged_6 : decode cX11_wronged 6 = .ok (.invokevirtual 271, 3) := by decide +kernel
theorem dX11_wronged_9 : decode cX11_wronged 9 = .ok (.ishl, 1) := by decide +kernel
theorem dX11_wronged_10 : decode cX11_wronged 10 = .ok (.iconst 1, 1) := by decide +kernel
theorem dX11_wronged_11 : decode cX11_wronged 11 = .ok (.isub, 1) := by decide +kernel
theorem dX11_wronged_12 : decode cX11_wronged 12 = .ok (.istore_n 2, 1) := by decide +kernel
theorem dX11_wronged_13 : decode cX11_wronged 13 = .ok (.lconst 0, 1) := by decide +kernel
theorem dX11_wronged_14 : decode cX11_wronged 14 = .ok (.lstore_n 3, 1) := by decide +kernel
theorem dX11_wronged_15 : decode cX11_wronged 15 = .ok (.iconst 0, 1) := by decide +kernel
theorem dX11_wronged_16 : decode cX11_wronged 16 = .ok (.istore 5, 2) := by decide +kernel
theorem dX11_wronged_18 : decode cX11_wronged 18 = .ok (.iload 5, 2) := by decide +kernel
theorem dX11_wronged_20 : decode cX11_wronged 20 = .ok (.iload_n 2, 1) := by decide +kernel
theorem dX11_wronged_21 : decode cX11_wronged 21 = .ok (.if_icmp .gt 33, 3) := by decide +kernel
theorem dX11_wronged_24 : decode cX11_wronged 24 = .ok (.lload_n 3, 1) := by decide +kernel
theorem dX11_wronged_25 : decode cX11_wronged 25 = .ok (.iload 5, 2) := by decide +kernel
theorem dX11_wronged_27 : decode cX11_wronged 27 = .ok (.invokestatic 399, 3) := by decide +kernel
theorem dX11_wronged_30 : decode cX11_wronged 30 = .ok (.iload_n 1, 1) := by decide +kernel
theorem dX11_wronged_31 : decode cX11_wronged 31 = .ok (.if_icmp .lt 14, 3) := by decide +kernel
theorem dX11_wronged_34 : decode cX11_wronged 34 = .ok (.aload_n 0, 1) := by decide +kernel
theorem dX11_wronged_35 : decode cX11_wronged 35 = .ok (.iload_n 2, 1) := by decide +kernel
theorem dX11_wronged_36 : decode cX11_wronged 36 = .ok (.iload 5, 2) := by decide +kernel
theorem dX11_wronged_38 : decode cX11_wronged 38 = .ok (.iconst 1, 1) := by decide +kernel
theorem dX11_wronged_39 : decode cX11_wronged 39 = .ok (.invokevirtual 385, 3) := by decide +kernel
theorem dX11_wronged_42 : decode cX11_wronged 42 = .ok (.goto 4, 3) := by decide +kernel
theorem dX11_wronged_45 : decode cX11_wronged 45 = .ok (.lconst 0, 1) := by decide +kernel
theorem dX11_wronged_46 : decode cX11_wronged 46 = .ok (.ladd, 1) := by decide +kernel
theorem dX11_wronged_47 : decode cX11_wronged 47 = .ok (.lstore_n 3, 1) := by decide +kernel
theorem dX11_wronged_48 : decode cX11_wronged 48 = .ok (.iinc 5 1, 3) := by decide +kernel
theorem dX11_wronged_51 : decode cX11_wronged 51 = .ok (.goto (-33), 3) := by decide +kernel
theorem dX11_wronged_54 : decode cX11_wronged 54 = .ok (.lload_n 3, 1) := by decide +kernel
theorem dX11_wronged_55 : decode cX11_wronged 55 = .ok (.l2i, 1) := by decide +kernel
theorem dX11_wronged_56 : decode cX11_wronged 56 = .ok (.ireturn, 1) := by decide +kernel
theorem dX11_rule_0 : decode cX11_rule 0 = .ok (.iconst 0, 1) := by decide +kernel
theorem dX11_rule_1 : decode cX11_rule 1 = .ok (.istore_n 1, 1) := by decide +kernel
theorem dX11_rule_2 : decode cX11_rule 2 = .ok (.aload_n 0, 1) := by decide +kernel
theorem dX11_rule_3 : decode cX11_rule 3 = .ok (.iconst 0, 1) := by decide +kernel
theorem dX11_rule_4 : decode cX11_rule 4 = .ok (.invokevirtual 393, 3) := by decide +kernel
theorem dX11_rule_7 : decode cX11_rule 7 = .ok (.aload_n 0, 1) := by decide +kernel
theorem dX11_rule_8 : decode cX11_rule 8 = .ok (.iconst 0, 1) := by decide +kernel
theorem dX11_rule_9 : decode cX11_rule 9 = .ok (.invokevirtual 396, 3) := by decide +kernel
theorem dX11_rule_12 : decode cX11_rule 12 = .ok (.iadd, 1) := by decide +kernel
theorem dX11_rule_13 : decode cX11_rule 13 = .ok (.istore_n 2, 1) := by decide +kernel
theorem dX11_rule_14 : decode cX11_rule 14 = .ok (.iconst 1, 1) := by decide +kernel
theorem dX11_rule_15 : decode cX11_rule 15 = .ok (.istore_n 3, 1) := by decide +kernel
theorem dX11_rule_16 : decode cX11_rule 16 = .ok (.iload_n 3, 1) := by decide +kernel
theorem dX11_rule_17 : decode cX11_rule 17 = .ok (.iconst 5, 1) := by decide +kernel
theorem dX11_rule_18 : decode cX11_rule 18 = .ok (.if_icmp .gt 33, 3) := by decide +kernel
theorem dX11_rule_21 : decode cX11_rule 21 = .ok (.aload_n 0, 1) := by decide +kernel
theorem dX11_rule_22 : decode cX11_rule 22 = .ok (.iload_n 3, 1) := by decide +kernel
theorem dX11_rule_23 : decode cX11_rule 23 = .ok (.invokevirtual 393, 3) := by decide +kernel
theorem dX11_rule_26 : decode cX11_rule 26 = .ok (.aload_n 0, 1) := by decide +kernel
theorem dX11_rule_27 : decode cX11_rule 27 = .ok (.iload_n 3, 1) := by decide +kernel
theorem dX11_rule_28 : decode cX11_rule 28 = .ok (.invokevirtual 396, 3) := by decide +kernel
theorem dX11_rule_31 : decode cX11_rule 31 = .ok (.iadd, 1) := by decide +kernel
theorem dX11_rule_32 : decode cX11_rule 32 = .ok (.istore 4, 2) := by decide +kernel
theorem dX11_rule_34 : decode cX11_rule 34 = .ok (.iload 4, 2) := by decide +kernel
theorem dX11_rule_36 : decode cX11_rule 36 = .ok (.iload_n 2, 1) := by decide +kernel
theorem dX11_rule_37 : decode cX11_rule 37 = .ok (.if_icmp .ge 8, 3) := by decide +kernel
theorem dX11_rule_40 : decode cX11_rule 40 = .ok (.iload_n 3, 1) := by decide +kernel
theorem dX11_rule_41 : decode cX11_rule 41 = .ok (.istore_n 1, 1) := by decide +kernel
theorem dX11_rule_42 : decode cX11_rule 42 = .ok (.iload 4, 2) := by decide +kernel
theorem dX11_rule_44 : decode cX11_rule 44 = .ok (.istore_n 2, 1) := by decide +kernel
theorem dX11_rule_45 : decode cX11_rule 45 = .ok (.iinc 3 1, 3) := by decide +kernel
theorem dX11_rule_48 : decode cX11_rule 48 = .ok (.goto (-32), 3) := by decide +kernel
theorem dX11_rule_51 : decode cX11_rule 51 = .ok (.iload_n 1, 1) := by decide +kernel
theorem dX11_rule_52 : decode cX11_rule 52 = .ok (.ireturn, 1) := by decide +kernel
theorem dX11_keep_0 : decode cX11_keep 0 = .ok (.aload_n 0, 1) := by decide +kernel
theorem dX11_keep_1 : decode cX11_keep 1 = .ok (.getfield 66, 3) := by decide +kernel
theorem dX11_keep_4 : decode cX11_keep 4 = .ok (.aload_n 0, 1) := by decide +kernel
theorem dX11_keep_5 : decode cX11_keep 5 = .ok (.getfield 55, 3) := by decide +kernel
theorem dX11_keep_8 : decode cX11_keep 8 = .ok (.invokevirtual 237, 3) := by decide +kernel
theorem dX11_keep_11 : decode cX11_keep 11 = .ok (.aload_n 0, 1) := by decide +kernel
theorem dX11_keep_12 : decode cX11_keep 12 = .ok (.aload_n 0, 1) := by decide +kernel
theorem dX11_keep_13 : decode cX11_keep 13 = .ok (.getfield 36, 3) := by decide +kernel
theorem dX11_keep_16 : decode cX11_keep 16 = .ok (.putfield 72, 3) := by decide +kernel
theorem dX11_keep_19 : decode cX11_keep 19 = .ok (.aload_n 0, 1) := by decide +kernel
theorem dX11_keep_20 : decode cX11_keep 20 = .ok (.aload_n 0, 1) := by decide +kernel
theorem dX11_keep_21 : decode cX11_keep 21 = .ok (.getfield 39, 3) := by decide +kernel
theorem dX11_keep_24 : decode cX11_keep 24 = .ok (.putfield 75, 3) := by decide +kernel
theorem dX11_keep_27 : decode cX11_keep 27 = .ok (.aload_n 0, 1) := by decide +kernel
theorem dX11_keep_28 : decode cX11_keep 28 = .ok (.iconst 1, 1) := by decide +kernel
theorem dX11_keep_29 : decode cX11_keep 29 = .ok (.putfield 69, 3) := by decide +kernel
theorem dX11_keep_32 : decode cX11_keep 32 = .ok (.aload_n 0, 1) := by decide +kernel
theorem dX11_keep_33 : decode cX11_keep 33 = .ok (.getfield 55, 3) := by decide +kernel
theorem dX11_keep_36 : decode cX11_keep 36 = .ok (.getfield 122, 3) := by decide +kernel
theorem dX11_keep_39 : decode cX11_keep 39 = .ok (.ifCond .eq 13, 3) := by decide +kernel
theorem dX11_keep_42 : decode cX11_keep 42 = .ok (.aload_n 0, 1) := by decide +kernel
theorem dX11_keep_43 : decode cX11_keep 43 = .ok (.getfield 55, 3) := by decide +kernel
theorem dX11_keep_46 : decode cX11_keep 46 = .ok (.getfield 210, 3) := by decide +kernel
theorem dX11_keep_49 : decode cX11_keep 49 = .ok (.goto 5, 3) := by decide +kernel
theorem dX11_keep_52 : decode cX11_keep 52 = .ok (.bipush (-2), 2) := by decide +kernel
theorem dX11_keep_54 : decode cX11_keep 54 = .ok (.ireturn, 1) := by decide +kernel
theorem dX11_back_0 : decode cX11_back 0 = .ok (.aload_n 0, 1) := by decide +kernel
theorem dX11_back_1 : decode cX11_back 1 = .ok (.getfield 69, 3) := by decide +kernel
theorem dX11_back_4 : decode cX11_back 4 = .ok (.ifCond .ne 5, 3) := by decide +kernel
theorem dX11_back_7 : decode cX11_back 7 = .ok (.iconst (-1), 1) := by decide +kernel
theorem dX11_back_8 : decode cX11_back 8 = .ok (.ireturn, 1) := by decide +kernel
theorem dX11_back_9 : decode cX11_back 9 = .ok (.aload_n 0, 1) := by decide +kernel
theorem dX11_back_10 : decode cX11_back 10 = .ok (.getfield 55, 3) := by decide +kernel
theorem dX11_back_13 : decode cX11_back 13 = .ok (.aload_n 0, 1) := by decide +kernel
theorem dX11_back_14 : decode cX11_back 14 = .ok (.getfield 66, 3) := by decide +kernel
theorem dX11_back_17 : decode cX11_back 17 = .ok (.invokevirtual 237, 3) := by decide +kernel
theorem dX11_back_20 : decode cX11_back 20 = .ok (.aload_n 0, 1) := by decide +kernel
theorem dX11_back_21 : decode cX11_back 21 = .ok (.aload_n 0, 1) := by decide +kernel
theorem dX11_back_22 : decode cX11_back 22 = .ok (.getfield 72, 3) := by decide +kernel
theorem dX11_back_25 : decode cX11_back 25 = .ok (.putfield 36, 3) := by decide +kernel
theorem dX11_back_28 : decode cX11_back 28 = .ok (.aload_n 0, 1) := by decide +kernel
theorem dX11_back_29 : decode cX11_back 29 = .ok (.aload_n 0, 1) := by decide +kernel
theorem dX11_back_30 : decode cX11_back 30 = .ok (.getfield 75, 3) := by decide +kernel
theorem dX11_back_33 : decode cX11_back 33 = .ok (.putfield 39, 3) := by decide +kernel
theorem dX11_back_36 : decode cX11_back 36 = .ok (.aload_n 0, 1) := by decide +kernel
theorem dX11_back_37 : decode cX11_back 37 = .ok (.iconst 0, 1) := by decide +kernel
theorem dX11_back_38 : decode cX11_back 38 = .ok (.putfield 63, 3) := by decide +kernel
theorem dX11_back_41 : decode cX11_back 41 = .ok (.aload_n 0, 1) := by decide +kernel
theorem dX11_back_42 : decode cX11_back 42 = .ok (.getfield 55, 3) := by decide +kernel
theorem dX11_back_45 : decode cX11_back 45 = .ok (.getfield 122, 3) := by decide +kernel
theorem dX11_back_48 : decode cX11_back 48 = .ok (.ifCond .eq 13, 3) := by decide +kernel
theorem dX11_back_51 : decode cX11_back 51 = .ok (.aload_n 0, 1) := by decide +kernel
theorem dX11_back_52 : decode cX11_back 52 = .ok (.getfield 55, 3) := by decide +kernel
theorem dX11_back_55 : decode cX11_back 55 = .ok (.getfield 210, 3) := by decide +kernel
theorem dX11_back_58 : decode cX11_back 58 = .ok (.goto 5, 3) := by decide +kernel
theorem dX11_back_61 : decode cX11_back 61 = .ok (.bipush (-2), 2) := by decide +kernel
theorem dX11_back_63 : decode cX11_back 63 = .ok (.ireturn, 1) := by decide +kernel
theorem dX11_count_0 : decode cX11_count 0 = .ok (.iload_n 1, 1) := by decide +kernel
theorem dX11_count_1 : decode cX11_count 1 = .ok (.tableswitch 157 0 10 #[59, 68, 77, 86, 95, 106, 122, 130, 138, 143, 148], 59) := by decide +kernel
theorem dX11_count_60 : decode cX11_count 60 = .ok (.aload_n 0, 1) := by decide +kernel
theorem dX11_count_61 : decode cX11_count 61 = .ok (.getfield 29, 3) := by decide +kernel
theorem dX11_count_64 : decode cX11_count 64 = .ok (.iconst 0, 1) := by decide +kernel
theorem dX11_count_65 : decode cX11_count 65 = .ok (.invokevirtual 271, 3) := by decide +kernel
theorem dX11_count_68 : decode cX11_count 68 = .ok (.ireturn, 1) := by decide +kernel
theorem dX11_count_69 : decode cX11_count 69 = .ok (.aload_n 0, 1) := by decide +kernel
theorem dX11_count_70 : decode cX11_count 70 = .ok (.getfield 29, 3) := by decide +kernel
theorem dX11_count_73 : decode cX11_count 73 = .ok (.iconst 1, 1) := by decide +kernel
theorem dX11_count_74 : decode cX11_count 74 = .ok (.invokevirtual 271, 3) := by decide +kernel
theorem dX11_count_77 : decode cX11_count 77 = .ok (.ireturn, 1) := by decide +kernel
theorem dX11_count_78 : decode cX11_count 78 = .ok (.aload_n 0, 1) := by decide +kernel
theorem dX11_count_79 : decode cX11_count 79 = .ok (.getfield 29, 3) := by decide +kernel
theorem dX11_count_82 : decode cX11_count 82 = .ok (.iconst 2, 1) := by decide +kernel
theorem dX11_count_83 : decode cX11_count 83 = .ok (.invokevirtual 271, 3) := by decide +kernel
theorem dX11_count_86 : decode cX11_count 86 = .ok (.ireturn, 1) := by decide +kernel
theorem dX11_count_87 : decode cX11_count 87 = .ok (.aload_n 0, 1) := by decide +kernel
theorem dX11_count_88 : decode cX11_count 88 = .ok (.getfield 29, 3) := by decide +kernel
theorem dX11_count_91 : decode cX11_count 91 = .ok (.iconst 3, 1) := by decide +kernel
theorem dX11_count_92 : decode cX11_count 92 = .ok (.invokevirtual 271, 3) := by decide +kernel
theorem dX11_count_95 : decode cX11_count 95 = .ok (.ireturn, 1) := by decide +kernel
theorem dX11_count_96 : decode cX11_count 96 = .ok (.aload_n 0, 1) := by decide +kernel
theorem dX11_count_97 : decode cX11_count 97 = .ok (.getfield 29, 3) := by decide +kernel
theorem dX11_count_100 : decode cX11_count 100 = .ok (.getfield 193, 3) := by decide +kernel
theorem dX11_count_103 : decode cX11_count 103 = .ok (.getfield 404, 3) := by decide +kernel
theorem dX11_count_106 : decode cX11_count 106 = .ok (.ireturn, 1) := by decide +kernel
theorem dX11_count_107 : decode cX11_count 107 = .ok (.aload_n 0, 1) := by decide +kernel
theorem dX11_count_108 : decode cX11_count 108 = .ok (.getfield 29, 3) := by decide +kernel
theorem dX11_count_111 : decode cX11_count 111 = .ok (.aload_n 0, 1) := by decide +kernel
theorem dX11_count_112 : decode cX11_count 112 = .ok (.getfield 29, 3) := by decide +kernel
theorem dX11_count_115 : decode cX11_count 115 = .ok (.iconst 0, 1) := by decide +kernel
theorem dX11_count_116 : decode cX11_count 116 = .ok (.invokevirtual 271, 3) := by decide +kernel
theorem dX11_count_119 : decode cX11_count 119 = .ok (.invokevirtual 216, 3) := by decide +kernel
theorem dX11_count_122 : decode cX11_count 122 = .ok (.ireturn, 1) := by decide +kernel
theorem dX11_count_123 : decode cX11_count 123 = .ok (.aload_n 0, 1) := by decide +kernel
theorem dX11_count_124 : decode cX11_count 124 = .ok (.getfield 100, 3) := by decide +kernel
theorem dX11_count_127 : decode cX11_count 127 = .ok (.getfield 336, 3) := by decide +kernel
theorem dX11_count_130 : decode cX11_count 130 = .ok (.ireturn, 1) := by decide +kernel
theorem dX11_count_131 : decode cX11_count 131 = .ok (.aload_n 0, 1) := by decide +kernel
theorem dX11_count_132 : decode cX11_count 132 = .ok (.getfield 100, 3) := by decide +kernel
theorem dX11_count_135 : decode cX11_count 135 = .ok (.invokevirtual 407, 3) := by decide +kernel
theorem dX11_count_138 : decode cX11_count 138 = .ok (.ireturn, 1) := by decide +kernel
theorem dX11_count_139 : decode cX11_count 139 = .ok (.aload_n 0, 1) := by decide +kernel
theorem dX11_count_140 : decode cX11_count 140 = .ok (.getfield 63, 3) := by decide +kernel
theorem dX11_count_143 : decode cX11_count 143 = .ok (.ireturn, 1) := by decide +kernel
theorem dX11_count_144 : decode cX11_count 144 = .ok (.aload_n 0, 1) := by decide +kernel
theorem dX11_count_145 : decode cX11_count 145 = .ok (.getfield 36, 3) := by decide +kernel
theorem dX11_count_148 : decode cX11_count 148 = .ok (.ireturn, 1) := by decide +kernel
theorem dX11_count_149 : decode cX11_count 149 = .ok (.aload_n 0, 1) := by decide +kernel
theorem dX11_count_150 : decode cX11_count 150 = .ok (.getfield 29, 3) := by decide +kernel
theorem dX11_count_153 : decode cX11_count 153 = .ok (.iconst 4, 1) := by decide +kernel
theorem dX11_count_154 : decode cX11_count 154 = .ok (.invokevirtual 271, 3) := by decide +kernel
theorem dX11_count_157 : decode cX11_count 157 = .ok (.ireturn, 1) := by decide +kernel
theorem dX11_count_158 : decode cX11_count 158 = .ok (.iconst (-1), 1) := by decide +kernel
theorem dX11_count_159 : decode cX11_count 159 = .ok (.ireturn, 1) := by decide +kernel
theorem dX11_isPace_0 : decode cX11_isPace 0 = .ok (.iload_n 0, 1) := by decide +kernel
theorem dX11_isPace_1 : decode cX11_isPace 1 = .ok (.iconst 1, 1) := by decide +kernel
theorem dX11_isPace_2 : decode cX11_isPace 2 = .ok (.if_icmp .lt 13, 3) := by decide +kernel
theorem dX11_isPace_5 : decode cX11_isPace 5 = .ok (.iload_n 0, 1) := by decide +kernel
theorem dX11_isPace_6 : decode cX11_isPace 6 = .ok (.bipush 9, 2) := by decide +kernel
theorem dX11_isPace_8 : decode cX11_isPace 8 = .ok (.if_icmp .gt 7, 3) := by decide +kernel
theorem dX11_isPace_11 : decode cX11_isPace 11 = .ok (.iconst 1, 1) := by decide +kernel
theorem dX11_isPace_12 : decode cX11_isPace 12 = .ok (.goto 4, 3) := by decide +kernel
theorem dX11_isPace_15 : decode cX11_isPace 15 = .ok (.iconst 0, 1) := by decide +kernel
theorem dX11_isPace_16 : decode cX11_isPace 16 = .ok (.ireturn, 1) := by decide +kernel
theorem dX11_isPair_0 : decode cX11_isPair 0 = .ok (.iload_n 0, 1) := by decide +kernel
theorem dX11_isPair_1 : decode cX11_isPair 1 = .ok (.ifCond .eq 8, 3) := by decide +kernel
theorem dX11_isPair_4 : decode cX11_isPair 4 = .ok (.iload_n 0, 1) := by decide +kernel
theorem dX11_isPair_5 : decode cX11_isPair 5 = .ok (.iconst 1, 1) := by decide +kernel
theorem dX11_isPair_6 : decode cX11_isPair 6 = .ok (.if_icmp .ne 7, 3) := by decide +kernel
theorem dX11_isPair_9 : decode cX11_isPair 9 = .ok (.iconst 1, 1) := by decide +kernel
theorem dX11_isPair_10 : decode cX11_isPair 10 = .ok (.goto 4, 3) := by decide +kernel
theorem dX11_isPair_13 : decode cX11_isPair 13 = .ok (.iconst 0, 1) := by decide +kernel
theorem dX11_isPair_14 : decode cX11_isPair 14 = .ok (.ireturn, 1) := by decide +kernel
theorem dX11_canRun_0 : decode cX11_canRun 0 = .ok (.aload_n 0, 1) := by decide +kernel
theorem dX11_canRun_1 : decode cX11_canRun 1 = .ok (.getfield 29, 3) := by decide +kernel
theorem dX11_canRun_4 : decode cX11_canRun 4 = .ok (.iconst 1, 1) := by decide +kernel
theorem dX11_canRun_5 : decode cX11_canRun 5 = .ok (.iload_n 1, 1) := by decide +kernel
theorem dX11_canRun_6 : decode cX11_canRun 6 = .ok (.invokevirtual 160, 3) := by decide +kernel
theorem dX11_canRun_9 : decode cX11_canRun 9 = .ok (.ifCond .eq 19, 3) := by decide +kernel
theorem dX11_canRun_12 : decode cX11_canRun 12 = .ok (.aload_n 0, 1) := by decide +kernel
theorem dX11_canRun_13 : decode cX11_canRun 13 = .ok (.getfield 29, 3) := by decide +kernel
theorem dX11_canRun_16 : decode cX11_canRun 16 = .ok (.iconst 3, 1) := by decide +kernel
theorem dX11_canRun_17 : decode cX11_canRun 17 = .ok (.iload_n 2, 1) := by decide +kernel
theorem dX11_canRun_18 : decode cX11_canRun 18 = .ok (.invokevirtual 160, 3) := by decide +kernel
theorem dX11_canRun_21 : decode cX11_canRun 21 = .ok (.ifCond .eq 7, 3) := by decide +kernel
theorem dX11_canRun_24 : decode cX11_canRun 24 = .ok (.iconst 1, 1) := by decide +kernel
theorem dX11_canRun_25 : decode cX11_canRun 25 = .ok (.goto 4, 3) := by decide +kernel
theorem dX11_canRun_28 : decode cX11_canRun 28 = .ok (.iconst 0, 1) := by decide +kernel
theorem dX11_canRun_29 : decode cX11_canRun 29 = .ok (.ireturn, 1) := by decide +kernel
theorem dX11_canHold_0 : decode cX11_canHold 0 = .ok (.aload_n 0, 1) := by decide +kernel
theorem dX11_canHold_1 : decode cX11_canHold 1 = .ok (.getfield 29, 3) := by decide +kernel
theorem dX11_canHold_4 : decode cX11_canHold 4 = .ok (.iconst 1, 1) := by decide +kernel
theorem dX11_canHold_5 : decode cX11_canHold 5 = .ok (.iload_n 1, 1) := by decide +kernel
theorem dX11_canHold_6 : decode cX11_canHold 6 = .ok (.invokevirtual 160, 3) := by decide +kernel
theorem dX11_canHold_9 : decode cX11_canHold 9 = .ok (.ifCond .eq 19, 3) := by decide +kernel
theorem dX11_canHold_12 : decode cX11_canHold 12 = .ok (.aload_n 0, 1) := by decide +kernel
theorem dX11_canHold_13 : decode cX11_canHold 13 = .ok (.getfield 29, 3) := by decide +kernel
theorem dX11_canHold_16 : decode cX11_canHold 16 = .ok (.iconst 2, 1) := by decide +kernel
theorem dX11_canHold_17 : decode cX11_canHold 17 = .ok (.iload_n 2, 1) := by decide +kernel
theorem dX11_canHold_18 : decode cX11_canHold 18 = .ok (.invokevirtual 160, 3) := by decide +kernel
theorem dX11_canHold_21 : decode cX11_canHold 21 = .ok (.ifCond .eq 7, 3) := by decide +kernel
theorem dX11_canHold_24 : decode cX11_canHold 24 = .ok (.iconst 1, 1) := by decide +kernel
theorem dX11_canHold_25 : decode cX11_canHold 25 = .ok (.goto 4, 3) := by decide +kernel
theorem dX11_canHold_28 : decode cX11_canHold 28 = .ok (.iconst 0, 1) := by decide +kernel
theorem dX11_canHold_29 : decode cX11_canHold 29 = .ok (.ireturn, 1) := by decide +kernel
theorem dX11_areMen_0 : decode cX11_areMen 0 = .ok (.iload_n 1, 1) := by decide +kernel
theorem dX11_areMen_1 : decode cX11_areMen 1 = .ok (.ifCond .le 21, 3) := by decide +kernel
theorem dX11_areMen_4 : decode cX11_areMen 4 = .ok (.iload_n 1, 1) := by decide +kernel
theorem dX11_areMen_5 : decode cX11_areMen 5 = .ok (.iconst 1, 1) := by decide +kernel
theorem dX11_areMen_6 : decode cX11_areMen 6 = .ok (.aload_n 0, 1) := by decide +kernel
theorem dX11_areMen_7 : decode cX11_areMen 7 = .ok (.getfield 29, 3) := by decide +kernel
theorem dX11_areMen_10 : decode cX11_areMen 10 = .ok (.iconst 1, 1) := by decide +kernel
theorem dX11_areMen_11 : decode cX11_areMen 11 = .ok (.invokevirtual 271, 3) := by decide +kernel
theorem dX11_areMen_14 : decode cX11_areMen 14 = .ok (.ishl, 1) := by decide +kernel
theorem dX11_areMen_15 : decode cX11_areMen 15 = .ok (.if_icmp .ge 7, 3) := by decide +kernel
theorem dX11_areMen_18 : decode cX11_areMen 18 = .ok (.iconst 1, 1) := by decide +kernel
theorem dX11_areMen_19 : decode cX11_areMen 19 = .ok (.goto 4, 3) := by decide +kernel
theorem dX11_areMen_22 : decode cX11_areMen 22 = .ok (.iconst 0, 1) := by decide +kernel
theorem dX11_areMen_23 : decode cX11_areMen 23 = .ok (.ireturn, 1) := by decide +kernel
theorem dX11_isBend_0 : decode cX11_isBend 0 = .ok (.aload_n 0, 1) := by decide +kernel
theorem dX11_isBend_1 : decode cX11_isBend 1 = .ok (.getfield 29, 3) := by decide +kernel
theorem dX11_isBend_4 : decode cX11_isBend 4 = .ok (.iconst 0, 1) := by decide +kernel
theorem dX11_isBend_5 : decode cX11_isBend 5 = .ok (.iload_n 1, 1) := by decide +kernel
theorem dX11_isBend_6 : decode cX11_isBend 6 = .ok (.invokevirtual 160, 3) := by decide +kernel
theorem dX11_isBend_9 : decode cX11_isBend 9 = .ok (.ifCond .eq 20, 3) := by decide +kernel
theorem dX11_isBend_12 : decode cX11_isBend 12 = .ok (.aload_n 0, 1) := by decide +kernel
theorem dX11_isBend_13 : decode cX11_isBend 13 = .ok (.getfield 29, 3) := by decide +kernel
theorem dX11_isBend_16 : decode cX11_isBend 16 = .ok (.iconst 0, 1) := by decide +kernel
theorem dX11_isBend_17 : decode cX11_isBend 17 = .ok (.iload_n 1, 1) := by decide +kernel
theorem dX11_isBend_18 : decode cX11_isBend 18 = .ok (.iconst 2, 1) := by decide +kernel
theorem dX11_isBend_19 : decode cX11_isBend 19 = .ok (.invokevirtual 176, 3) := by decide +kernel
theorem dX11_isBend_22 : decode cX11_isBend 22 = .ok (.ifCond .eq 7, 3) := by decide +kernel
theorem dX11_isBend_25 : decode cX11_isBend 25 = .ok (.iconst 1, 1) := by decide +kernel
theorem dX11_isBend_26 : decode cX11_isBend 26 = .ok (.goto 4, 3) := by decide +kernel
theorem dX11_isBend_29 : decode cX11_isBend 29 = .ok (.iconst 0, 1) := by decide +kernel
theorem dX11_isBend_30 : decode cX11_isBend 30 = .ok (.ireturn, 1) := by decide +kernel
theorem dX11_makeReady_0 : decode cX11_makeReady 0 = .ok (.aload_n 0, 1) := by decide +kernel
theorem dX11_makeReady_1 : decode cX11_makeReady 1 = .ok (.getfield 48, 3) := by decide +kernel
theorem dX11_makeReady_4 : decode cX11_makeReady 4 = .ok (.aload_n 0, 1) := by decide +kernel
theorem dX11_makeReady_5 : decode cX11_makeReady 5 = .ok (.getfield 29, 3) := by decide +kernel
theorem dX11_makeReady_8 : decode cX11_makeReady 8 = .ok (.iconst 1, 1) := by decide +kernel
theorem dX11_makeReady_9 : decode cX11_makeReady 9 = .ok (.iload_n 1, 1) := by decide +kernel
theorem dX11_makeReady_10 : decode cX11_makeReady 10 = .ok (.iconst 2, 1) := by decide +kernel
theorem dX11_makeReady_11 : decode cX11_makeReady 11 = .ok (.invokevirtual 176, 3) := by decide +kernel
theorem dX11_makeReady_14 : decode cX11_makeReady 14 = .ok (.aload_n 0, 1) := by decide +kernel
theorem dX11_makeReady_15 : decode cX11_makeReady 15 = .ok (.getfield 36, 3) := by decide +kernel
theorem dX11_makeReady_18 : decode cX11_makeReady 18 = .ok (.aload_n 0, 1) := by decide +kernel
theorem dX11_makeReady_19 : decode cX11_makeReady 19 = .ok (.getfield 39, 3) := by decide +kernel
theorem dX11_makeReady_22 : decode cX11_makeReady 22 = .ok (.iconst 0, 1) := by decide +kernel
theorem dX11_makeReady_23 : decode cX11_makeReady 23 = .ok (.invokevirtual 313, 3) := by decide +kernel
theorem dX11_makeReady_26 : decode cX11_makeReady 26 = .ok (.return_, 1) := by decide +kernel
theorem dX11_walkAlong_0 : decode cX11_walkAlong 0 = .ok (.aload_n 0, 1) := by decide +kernel
theorem dX11_walkAlong_1 : decode cX11_walkAlong 1 = .ok (.iload_n 1, 1) := by decide +kernel
theorem dX11_walkAlong_2 : decode cX11_walkAlong 2 = .ok (.invokevirtual 186, 3) := by decide +kernel
theorem dX11_walkAlong_5 : decode cX11_walkAlong 5 = .ok (.aload_n 0, 1) := by decide +kernel
theorem dX11_walkAlong_6 : decode cX11_walkAlong 6 = .ok (.getfield 78, 3) := by decide +kernel
theorem dX11_walkAlong_9 : decode cX11_walkAlong 9 = .ok (.aload_n 0, 1) := by decide +kernel
theorem dX11_walkAlong_10 : decode cX11_walkAlong 10 = .ok (.getfield 29, 3) := by decide +kernel
theorem dX11_walkAlong_13 : decode cX11_walkAlong 13 = .ok (.iload_n 1, 1) := by decide +kernel
theorem dX11_walkAlong_14 : decode cX11_walkAlong 14 = .ok (.iload_n 2, 1) := by decide +kernel
theorem dX11_walkAlong_15 : decode cX11_walkAlong 15 = .ok (.invokevirtual 219, 3) := by decide +kernel
theorem dX11_walkAlong_18 : decode cX11_walkAlong 18 = .ok (.iconst 0, 1) := by decide +kernel
theorem dX11_walkAlong_19 : decode cX11_walkAlong 19 = .ok (.istore 4, 2) := by decide +kernel
theorem dX11_walkAlong_21 : decode cX11_walkAlong 21 = .ok (.iload 4, 2) := by decide +kernel
theorem dX11_walkAlong_23 : decode cX11_walkAlong 23 = .ok (.iload_n 3, 1) := by decide +kernel
theorem dX11_walkAlong_24 : decode cX11_walkAlong 24 = .ok (.if_icmp .ge 35, 3) := by decide +kernel
theorem dX11_walkAlong_27 : decode cX11_walkAlong 27 = .ok (.aload_n 0, 1) := by decide +kernel
theorem dX11_walkAlong_28 : decode cX11_walkAlong 28 = .ok (.getfield 78, 3) := by decide +kernel
theorem dX11_walkAlong_31 : decode cX11_walkAlong 31 = .ok (.aload_n 0, 1) := by decide +kernel
theorem dX11_walkAlong_32 : decode cX11_walkAlong 32 = .ok (.getfield 29, 3) := by decide +kernel
theorem dX11_walkAlong_35 : decode cX11_walkAlong 35 = .ok (.invokevirtual 226, 3) := by decide +kernel
theorem dX11_walkAlong_38 : decode cX11_walkAlong 38 = .ok (.ifCond .eq 21, 3) := by decide +kernel
theorem dX11_walkAlong_41 : decode cX11_walkAlong 41 = .ok (.aload_n 0, 1) := by decide +kernel
theorem dX11_walkAlong_42 : decode cX11_walkAlong 42 = .ok (.getfield 78, 3) := by decide +kernel
theorem dX11_walkAlong_45 : decode cX11_walkAlong 45 = .ok (.aload_n 0, 1) := by decide +kernel
theorem dX11_walkAlong_46 : decode cX11_walkAlong 46 = .ok (.getfield 48, 3) := by decide +kernel
theorem dX11_walkAlong_49 : decode cX11_walkAlong 49 = .ok (.iconst 0, 1) := by decide +kernel
theorem dX11_walkAlong_50 : decode cX11_walkAlong 50 = .ok (.invokevirtual 233, 3) := by decide +kernel
theorem dX11_walkAlong_53 : decode cX11_walkAlong 53 = .ok (.iinc 4 1, 3) := by decide +kernel
theorem dX11_walkAlong_56 : decode cX11_walkAlong 56 = .ok (.goto (-35), 3) := by decide +kernel
theorem dX11_walkAlong_59 : decode cX11_walkAlong 59 = .ok (.return_, 1) := by decide +kernel
theorem dX11_walkTells_0 : decode cX11_walkTells 0 = .ok (.aload_n 0, 1) := by decide +kernel
theorem dX11_walkTells_1 : decode cX11_walkTells 1 = .ok (.getfield 78, 3) := by decide +kernel
theorem dX11_walkTells_4 : decode cX11_walkTells 4 = .ok (.invokevirtual 253, 3) := by decide +kernel
theorem dX11_walkTells_7 : decode cX11_walkTells 7 = .ok (.ifCond .eq 6, 3) := by decide +kernel
theorem dX11_walkTells_10 : decode cX11_walkTells 10 = .ok (.bipush (-2), 2) := by decide +kernel
theorem dX11_walkTells_12 : decode cX11_walkTells 12 = .ok (.ireturn, 1) := by decide +kernel
theorem dX11_walkTells_13 : decode cX11_walkTells 13 = .ok (.iload_n 1, 1) := by decide +kernel
theorem dX11_walkTells_14 : decode cX11_walkTells 14 = .ok (.ifCond .ne 11, 3) := by decide +kernel
theorem dX11_walkTells_17 : decode cX11_walkTells 17 = .ok (.aload_n 0, 1) := by decide +kernel
theorem dX11_walkTells_18 : decode cX11_walkTells 18 = .ok (.getfield 78, 3) := by decide +kernel
theorem dX11_walkTells_21 : decode cX11_walkTells 21 = .ok (.getfield 241, 3) := by decide +kernel
theorem dX11_walkTells_24 : decode cX11_walkTells 24 = .ok (.ireturn, 1) := by decide +kernel
theorem dX11_walkTells_25 : decode cX11_walkTells 25 = .ok (.iload_n 1, 1) := by decide +kernel
theorem dX11_walkTells_26 : decode cX11_walkTells 26 = .ok (.iconst 1, 1) := by decide +kernel
theorem dX11_walkTells_27 : decode cX11_walkTells 27 = .ok (.if_icmp .ne 13, 3) := by decide +kernel
theorem dX11_walkTells_30 : decode cX11_walkTells 30 = .ok (.aload_n 0, 1) := by decide +kernel
theorem dX11_walkTells_31 : decode cX11_walkTells 31 = .ok (.getfield 78, 3) := by decide +kernel
theorem dX11_walkTells_34 : decode cX11_walkTells 34 = .ok (.getfield 244, 3) := by decide +kernel
theorem dX11_walkTells_37 : decode cX11_walkTells 37 = .ok (.goto 10, 3) := by decide +kernel
theorem dX11_walkTells_40 : decode cX11_walkTells 40 = .ok (.aload_n 0, 1) := by decide +kernel
theorem dX11_walkTells_41 : decode cX11_walkTells 41 = .ok (.getfield 78, 3) := by decide +kernel
theorem dX11_walkTells_44 : decode cX11_walkTells 44 = .ok (.getfield 247, 3) := by decide +kernel
theorem dX11_walkTells_47 : decode cX11_walkTells 47 = .ok (.ireturn, 1) := by decide +kernel
