theorem dX12_in_0 : decode cX12_in 0 = .ok (.iload_n 0, 1) := by decide +kernel
theorem dX12_in_1 : decode cX12_in 1 = .ok (.iload_n 1, 1) := by decide +kernel
theorem dX12_in_2 : decode cX12_in 2 = .ok (.if_icmp .lt 12, 3) := by decide +kernel
theorem dX12_in_5 : decode cX12_in 5 = .ok (.iload_n 0, 1) := by decide +kernel
theorem dX12_in_6 : decode cX12_in 6 = .ok (.iload_n 2, 1) := by decide +kernel
theorem dX12_in_7 : decode cX12_in 7 = .ok (.if_icmp .gt 7, 3) := by decide +kernel
theorem dX12_in_10 : decode cX12_in 10 = .ok (.iconst 1, 1) := by decide +kernel
theorem dX12_in_11 : decode cX12_in 11 = .ok (.goto 4, 3) := by decide +kernel
theorem dX12_in_14 : decode cX12_in 14 = .ok (.iconst 0, 1) := by decide +kernel
theorem dX12_in_15 : decode cX12_in 15 = .ok (.ireturn, 1) := by decide +kernel
theorem dX12_has_0 : decode cX12_has 0 = .ok (.iload_n 0, 1) := by decide +kernel
theorem dX12_has_1 : decode cX12_has 1 = .ok (.iload_n 1, 1) := by decide +kernel
theorem dX12_has_2 : decode cX12_has 2 = .ok (.ishr, 1) := by decide +kernel
theorem dX12_has_3 : decode cX12_has 3 = .ok (.iconst 1, 1) := by decide +kernel
theorem dX12_has_4 : decode cX12_has 4 = .ok (.iand, 1) := by decide +kernel
theorem dX12_has_5 : decode cX12_has 5 = .ok (.iconst 1, 1) := by decide +kernel
theorem dX12_has_6 : decode cX12_has 6 = .ok (.if_icmp .ne 7, 3) := by decide +kernel
theorem dX12_has_9 : decode cX12_has 9 = .ok (.iconst 1, 1) := by decide +kernel
theorem dX12_has_10 : decode cX12_has 10 = .ok (.goto 4, 3) := by decide +kernel
theorem dX12_has_13 : decode cX12_has 13 = .ok (.iconst 0, 1) := by decide +kernel
theorem dX12_has_14 : decode cX12_has 14 = .ok (.ireturn, 1) := by decide +kernel
theorem dX12_round_0 : decode cX12_round 0 = .ok (.iload_n 0, 1) := by decide +kernel
theorem dX12_round_1 : decode cX12_round 1 = .ok (.iload_n 1, 1) := by decide +kernel
theorem dX12_round_2 : decode cX12_round 2 = .ok (.irem, 1) := by decide +kernel
theorem dX12_round_3 : decode cX12_round 3 = .ok (.iload_n 1, 1) := by decide +kernel
theorem dX12_round_4 : decode cX12_round 4 = .ok (.iadd, 1) := by decide +kernel
theorem dX12_round_5 : decode cX12_round 5 = .ok (.iload_n 1, 1) := by decide +kernel
theorem dX12_round_6 : decode cX12_round 6 = .ok (.irem, 1) := by decide +kernel
theorem dX12_round_7 : decode cX12_round 7 = .ok (.ireturn, 1) := by decide +kernel
theorem dX12_init_0 : decode cX12_init 0 = .ok (.aload_n 0, 1) := by decide +kernel
theorem dX12_init_1 : decode cX12_init 1 = .ok (.invokespecial 3, 3) := by decide +kernel
theorem dX12_init_4 : decode cX12_init 4 = .ok (.aload_n 0, 1) := by decide +kernel
theorem dX12_init_5 : decode cX12_init 5 = .ok (.sipush 240, 3) := by decide +kernel
theorem dX12_init_8 : decode cX12_init 8 = .ok (.newarray .int, 2) := by decide +kernel
theorem dX12_init_10 : decode cX12_init 10 = .ok (.putfield 9, 3) := by decide +kernel
theorem dX12_init_13 : decode cX12_init 13 = .ok (.aload_n 0, 1) := by decide +kernel
theorem dX12_init_14 : decode cX12_init 14 = .ok (.sipush 2600, 3) := by decide +kernel
theorem dX12_init_17 : decode cX12_init 17 = .ok (.newarray .int, 2) := by decide +kernel
theorem dX12_init_19 : decode cX12_init 19 = .ok (.putfield 13, 3) := by decide +kernel
theorem dX12_init_22 : decode cX12_init 22 = .ok (.aload_n 0, 1) := by decide +kernel
theorem dX12_init_23 : decode cX12_init 23 = .ok (.sipush 2600, 3) := by decide +kernel
theorem dX12_init_26 : decode cX12_init 26 = .ok (.newarray .int, 2) := by decide +kernel
theorem dX12_init_28 : decode cX12_init 28 = .ok (.putfield 16, 3) := by decide +kernel
theorem dX12_init_31 : decode cX12_init 31 = .ok (.aload_n 0, 1) := by decide +kernel
theorem dX12_init_32 : decode cX12_init 32 = .ok (.iconst 5, 1) := by decide +kernel
theorem dX12_init_33 : decode cX12_init 33 = .ok (.newarray .int, 2) := by decide +kernel
theorem dX12_init_35 : decode cX12_init 35 = .ok (.putfield 19, 3) := by decide +kernel
theorem dX12_init_38 : decode cX12_init 38 = .ok (.aload_n 0, 1) := by decide +kernel
theorem dX12_init_39 : decode cX12_init 39 = .ok (.iconst 5, 1) := by decide +kernel
theorem dX12_init_40 : decode cX12_init 40 = .ok (.newarray .int, 2) := by decide +kernel
theorem dX12_init_42 : decode cX12_init 42 = .ok (.putfield 22, 3) := by decide +kernel
theorem dX12_init_45 : decode cX12_init 45 = .ok (.aload_n 0, 1) := by decide +kernel
theorem dX12_init_46 : decode cX12_init 46 = .ok (.sipush 700, 3) := by decide +kernel
theorem dX12_init_49 : decode cX12_init 49 = .ok (.newarray .int, 2) := by decide +kernel
theorem dX12_init_51 : decode cX12_init 51 = .ok (.putfield 25, 3) := by decide +kernel
theorem dX12_init_54 : decode cX12_init 54 = .ok (.aload_n 0, 1) := by decide +kernel
theorem dX12_init_55 : decode cX12_init 55 = .ok (.sipush 700, 3) := by decide +kernel
theorem dX12_init_58 : decode cX12_init 58 = .ok (.newarray .int, 2) := by decide +kernel
theorem dX12_init_60 : decode cX12_init 60 = .ok (.putfield 28, 3) := by decide +kernel
theorem dX12_init_63 : decode cX12_init 63 = .ok (.aload_n 0, 1) := by decide +kernel
theorem dX12_init_64 : decode cX12_init 64 = .ok (.sipush 700, 3) := by decide +kernel
theorem dX12_init_67 : decode cX12_init 67 = .ok (.newarray .int, 2) := by decide +kernel
theorem dX12_init_69 : decode cX12_init 69 = .ok (.putfield 31, 3) := by decide +kernel
theorem dX12_init_72 : decode cX12_init 72 = .ok (.aload_n 0, 1) := by decide +kernel
theorem dX12_init_73 : decode cX12_init 73 = .ok (.bipush 6, 2) := by decide +kernel
theorem dX12_init_75 : decode cX12_init 75 = .ok (.newarray .int, 2) := by decide +kernel
theorem dX12_init_77 : decode cX12_init 77 = .ok (.putfield 34, 3) := by decide +kernel
theorem dX12_init_80 : decode cX12_init 80 = .ok (.aload_n 0, 1) := by decide +kernel
theorem dX12_init_81 : decode cX12_init 81 = .ok (.bipush 80, 2) := by decide +kernel
theorem dX12_init_83 : decode cX12_init 83 = .ok (.newarray .int, 2) := by decide +kernel
theorem dX12_init_85 : decode cX12_init 85 = .ok (.putfield 37, 3) := by decide +kernel
theorem dX12_init_88 : decode cX12_init 88 = .ok (.aload_n 0, 1) := by decide +kernel
theorem dX12_init_89 : decode cX12_init 89 = .ok (.iconst 3, 1) := by decide +kernel
theorem dX12_init_90 : decode cX12_init 90 = .ok (.newarray .int, 2) := by decide +kernel
theorem dX12_init_92 : decode cX12_init 92 = .ok (.putfield 40, 3) := by decide +kernel
theorem dX12_init_95 : decode cX12_init 95 = .ok (.aload_n 0, 1) := by decide +kernel
theorem dX12_init_96 : decode cX12_init 96 = .ok (.bipush 16, 2) := by decide +kernel
theorem dX12_init_98 : decode cX12_init 98 = .ok (.newarray .int, 2) := by decide +kernel
theorem dX12_init_100 : decode cX12_init 100 = .ok (.putfield 43, 3) := by decide +kernel
theorem dX12_init_103 : decode cX12_init 103 = .ok (.aload_n 0, 1) := by decide +kernel
theorem dX12_init_104 : decode cX12_init 104 = .ok (.bipush 112, 2) := by decide +kernel
theorem dX12_init_106 : decode cX12_init 106 = .ok (.newarray .int, 2) := by decide +kernel
theorem dX12_init_108 : decode cX12_init 108 = .ok (.putfield 46, 3) := by decide +kernel
theorem dX12_init_111 : decode cX12_init 111 = .ok (.aload_n 0, 1) := by decide +kernel
theorem dX12_init_112 : decode cX12_init 112 = .ok (.bipush 7, 2) := by decide +kernel
theorem dX12_init_114 : decode cX12_init 114 = .ok (.newarray .int, 2) := by decide +kernel
theorem dX12_init_116 : decode cX12_init 116 = .ok (.putfield 49, 3) := by decide +kernel
theorem dX12_init_119 : decode cX12_init 119 = .ok (.aload_n 0, 1) := by decide +kernel
theorem dX12_init_120 : decode cX12_init 120 = .ok (.sipush 261, 3) := by decide +kernel
theorem dX12_init_123 : decode cX12_init 123 = .ok (.newarray .int, 2) := by decide +kernel
theorem dX12_init_125 : decode cX12_init 125 = .ok (.putfield 52, 3) := by decide +kernel
theorem dX12_init_128 : decode cX12_init 128 = .ok (.aload_n 0, 1) := by decide +kernel
theorem dX12_init_129 : decode cX12_init 129 = .ok (.iconst 5, 1) := by decide +kernel
theorem dX12_init_130 : decode cX12_init 130 = .ok (.newarray .int, 2) := by decide +kernel
theorem dX12_init_132 : decode cX12_init 132 = .ok (.putfield 55, 3) := by decide +kernel
theorem dX12_init_135 : decode cX12_init 135 = .ok (.aload_n 0, 1) := by decide +kernel
theorem dX12_init_136 : decode cX12_init 136 = .ok (.iconst (-1), 1) := by decide +kernel
theorem dX12_init_137 : decode cX12_init 137 = .ok (.putfield 58, 3) := by decide +kernel
theorem dX12_init_140 : decode cX12_init 140 = .ok (.aload_n 0, 1) := by decide +kernel
theorem dX12_init_141 : decode cX12_init 141 = .ok (.iconst 3, 1) := by decide +kernel
theorem dX12_init_142 : decode cX12_init 142 = .ok (.putfield 62, 3) := by decide +kernel
theorem dX12_init_145 : decode cX12_init 145 = .ok (.aload_n 0, 1) := by decide +kernel
theorem dX12_init_146 : decode cX12_init 146 = .ok (.sipush 10440, 3) := by decide +kernel
theorem dX12_init_149 : decode cX12_init 149 = .ok (.newarray .int, 2) := by decide +kernel
theorem dX12_init_151 : decode cX12_init 151 = .ok (.putfield 65, 3) := by decide +kernel
theorem dX12_init_154 : decode cX12_init 154 = .ok (.aload_n 0, 1) := by decide +kernel
theorem dX12_init_155 : decode cX12_init 155 = .ok (.sipush 361, 3) := by decide +kernel
theorem dX12_init_158 : decode cX12_init 158 = .ok (.newarray .int, 2) := by decide +kernel
theorem dX12_init_160 : decode cX12_init 160 = .ok (.putfield 68, 3) := by decide +kernel
theorem dX12_init_163 : decode cX12_init 163 = .ok (.aload_n 0, 1) := by decide +kernel
theorem dX12_init_164 : decode cX12_init 164 = .ok (.bipush 61, 2) := by decide +kernel
theorem dX12_init_166 : decode cX12_init 166 = .ok (.newarray .int, 2) := by decide +kernel
theorem dX12_init_168 : decode cX12_init 168 = .ok (.putfield 71, 3) := by decide +kernel
theorem dX12_init_171 : decode cX12_init 171 = .ok (.aload_n 0, 1) := by decide +kernel
theorem dX12_init_172 : decode cX12_init 172 = .ok (.iconst 4, 1) := by decide +kernel
theorem dX12_init_173 : decode cX12_init 173 = .ok (.newarray .int, 2) := by decide +kernel
theorem dX12_init_175 : decode cX12_init 175 = .ok (.putfield 74, 3) := by decide +kernel
theorem dX12_init_178 : decode cX12_init 178 = .ok (.aload_n 0, 1) := by decide +kernel
theorem dX12_init_179 : decode cX12_init 179 = .ok (.bipush 10, 2) := by decide +kernel
theorem dX12_init_181 : decode cX12_init 181 = .ok (.newarray .int, 2) := by decide +kernel
theorem dX12_init_183 : decode cX12_init 183 = .ok (.putfield 77, 3) := by decide +kernel
theorem dX12_init_186 : decode cX12_init 186 = .ok (.aload_n 0, 1) := by decide +kernel
theorem dX12_init_187 : decode cX12_init 187 = .ok (.bipush 10, 2) := by decide +kernel
theorem dX12_init_189 : decode cX12_init 189 = .ok (.newarray .int, 2) := by decide +kernel
theorem dX12_init_191 : decode cX12_init 191 = .ok (.putfield 80, 3) := by decide +kernel
theorem dX12_init_194 : decode cX12_init 194 = .ok (.aload_n 0, 1) := by decide +kernel
theorem dX12_init_195 : decode cX12_init 195 = .ok (.bipush 10, 2) := by decide +kernel
theorem dX12_init_197 : decode cX12_init 197 = .ok (.newarray .boolean, 2) := by decide +kernel
theorem dX12_init_199 : decode cX12_init 199 = .ok (.putfield 83, 3) := by decide +kernel
theorem dX12_init_202 : decode cX12_init 202 = .ok (.aload_n 0, 1) := by decide +kernel
theorem dX12_init_203 : decode cX12_init 203 = .ok (.sipush 1647, 3) := by decide +kernel
theorem dX12_init_206 : decode cX12_init 206 = .ok (.newarray .int, 2) := by decide +kernel
theorem dX12_init_208 : decode cX12_init 208 = .ok (.putfield 87, 3) := by decide +kernel
theorem dX12_init_211 : decode cX12_init 211 = .ok (.aload_n 0, 1) := by decide +kernel
theorem dX12_init_212 : decode cX12_init 212 = .ok (.sipush 261, 3) := by decide +kernel
theorem dX12_init_215 : decode cX12_init 215 = .ok (.newarray .int, 2) := by decide +kernel
theorem dX12_init_217 : decode cX12_init 217 = .ok (.putfield 90, 3) := by decide +kernel
theorem dX12_init_220 : decode cX12_init 220 = .ok (.return_, 1) := by decide +kernel
theorem dX12_thrown_0 : decode cX12_thrown 0 = .ok (.aload_n 0, 1) := by decide +kernel
theorem dX12_thrown_1 : decode cX12_thrown 1 = .ok (.getfield 93, 3) := by decide +kernel
theorem dX12_thrown_4 : decode cX12_thrown 4 = .ok (.ireturn, 1) := by decide +kernel
theorem dX12_byteOf_0 : decode cX12_byteOf 0 = .ok (.iload 5, 2) := by decide +kernel
theorem dX12_byteOf_2 : decode cX12_byteOf 2 = .ok (.iconst 4, 1) := by decide +kernel
theorem dX12_byteOf_3 : decode cX12_byteOf 3 = .ok (.if_icmp .ge 7, 3) := by decide +kernel
theorem dX12_byteOf_6 : decode cX12_byteOf 6 = .ok (.iload_n 0, 1) := by decide +kernel
theorem dX12_byteOf_7 : decode cX12_byteOf 7 = .ok (.goto 38, 3) := by decide +kernel
theorem dX12_byteOf_10 : decode cX12_byteOf 10 = .ok (.iload 5, 2) := by decide +kernel
theorem dX12_byteOf_12 : decode cX12_byteOf 12 = .ok (.bipush 8, 2) := by decide +kernel
theorem dX12_byteOf_14 : decode cX12_byteOf 14 = .ok (.if_icmp .ge 7, 3) := by decide +kernel
theorem dX12_byteOf_17 : decode cX12_byteOf 17 = .ok (.iload_n 1, 1) := by decide +kernel
theorem dX12_byteOf_18 : decode cX12_byteOf 18 = .ok (.goto 27, 3) := by decide +kernel
theorem dX12_byteOf_21 : decode cX12_byteOf 21 = .ok (.iload 5, 2) := by decide +kernel
theorem dX12_byteOf_23 : decode cX12_byteOf 23 = .ok (.bipush 12, 2) := by decide +kernel
theorem dX12_byteOf_25 : decode cX12_byteOf 25 = .ok (.if_icmp .ge 7, 3) := by decide +kernel
theorem dX12_byteOf_28 : decode cX12_byteOf 28 = .ok (.iload_n 2, 1) := by decide +kernel
theorem dX12_byteOf_29 : decode cX12_byteOf 29 = .ok (.goto 16, 3) := by decide +kernel
theorem dX12_byteOf_32 : decode cX12_byteOf 32 = .ok (.iload 5, 2) := by decide +kernel
theorem dX12_byteOf_34 : decode cX12_byteOf 34 = .ok (.bipush 16, 2) := by decide +kernel
theorem dX12_byteOf_36 : decode cX12_byteOf 36 = .ok (.if_icmp .ge 7, 3) := by decide +kernel
theorem dX12_byteOf_39 : decode cX12_byteOf 39 = .ok (.iload_n 3, 1) := by decide +kernel
theorem dX12_byteOf_40 : decode cX12_byteOf 40 = .ok (.goto 5, 3) := by decide +kernel
theorem dX12_byteOf_43 : decode cX12_byteOf 43 = .ok (.iload 4, 2) := by decide +kernel
theorem dX12_byteOf_45 : decode cX12_byteOf 45 = .ok (.istore 6, 2) := by decide +kernel
theorem dX12_byteOf_47 : decode cX12_byteOf 47 = .ok (.iload 6, 2) := by decide +kernel
theorem dX12_byteOf_49 : decode cX12_byteOf 49 = .ok (.bipush 24, 2) := by decide +kernel
theorem dX12_byteOf_51 : decode cX12_byteOf 51 = .ok (.bipush 8, 2) := by decide +kernel
theorem dX12_byteOf_53 : decode cX12_byteOf 53 = .ok (.iload 5, 2) := by decide +kernel
theorem dX12_byteOf_55 : decode cX12_byteOf 55 = .ok (.iconst 4, 1) := by decide +kernel
theorem dX12_byteOf_56 : decode cX12_byteOf 56 = .ok (.irem, 1) := by decide +kernel
theorem dX12_byteOf_57 : decode cX12_byteOf 57 = .ok (.imul, 1) := by decide +kernel
theorem dX12_byteOf_58 : decode cX12_byteOf 58 = .ok (.isub, 1) := by decide +kernel
theorem dX12_byteOf_59 : decode cX12_byteOf 59 = .ok (.ishr, 1) := by decide +kernel
theorem dX12_byteOf_60 : decode cX12_byteOf 60 = .ok (.sipush 255, 3) := by decide +kernel
theorem dX12_byteOf_63 : decode cX12_byteOf 63 = .ok (.iand, 1) := by decide +kernel
theorem dX12_byteOf_64 : decode cX12_byteOf 64 = .ok (.ireturn, 1) := by decide +kernel
theorem dX12_feed_0 : decode cX12_feed 0 = .ok (.iconst 0, 1) := by decide +kernel
theorem dX12_feed_1 : decode cX12_feed 1 = .ok (.istore 6, 2) := by decide +kernel
theorem dX12_feed_3 : decode cX12_feed 3 = .ok (.iconst 0, 1) := by decide +kernel
theorem dX12_feed_4 : decode cX12_feed 4 = .ok (.istore 7, 2) := by decide +kernel
theorem dX12_feed_6 : decode cX12_feed 6 = .ok (.iload 7, 2) := by decide +kernel
theorem dX12_feed_8 : decode cX12_feed 8 = .ok (.bipush 20, 2) := by decide +kernel
theorem dX12_feed_10 : decode cX12_feed 10 = .ok (.if_icmp .ge 34, 3) := by decide +kernel
theorem dX12_feed_13 : decode cX12_feed 13 = .ok (.iload 6, 2) := by decide +kernel
theorem dX12_feed_15 : decode cX12_feed 15 = .ok (.iload_n 1, 1) := by decide +kernel
theorem dX12_feed_16 : decode cX12_feed 16 = .ok (.iload_n 2, 1) := by decide +kernel
theorem dX12_feed_17 : decode cX12_feed 17 = .ok (.iload_n 3, 1) := by decide +kernel
theorem dX12_feed_18 : decode cX12_feed 18 = .ok (.iload 4, 2) := by decide +kernel
theorem dX12_feed_20 : decode cX12_feed 20 = .ok (.iload 5, 2) := by decide +kernel
theorem dX12_feed_22 : decode cX12_feed 22 = .ok (.iload 7, 2) := by decide +kernel
theorem dX12_feed_24 : decode cX12_feed 24 = .ok (.invokestatic 96, 3) := by decide +kernel
theorem dX12_feed_27 : decode cX12_feed 27 = .ok (.ifCond .eq 7, 3) := by decide +kernel
theorem dX12_feed_30 : decode cX12_feed 30 = .ok (.iconst 1, 1) := by decide +kernel
theorem dX12_feed_31 : decode cX12_feed 31 = .ok (.goto 4, 3) := by decide +kernel
theorem dX12_feed_34 : decode cX12_feed 34 = .ok (.iconst 0, 1) := by decide +kernel
theorem dX12_feed_35 : decode cX12_feed 35 = .ok (.iadd, 1) := by decide +kernel
theorem dX12_feed_36 : decode cX12_feed 36 = .ok (.istore 6, 2) := by decide +kernel
theorem dX12_feed_38 : decode cX12_feed 38 = .ok (.iinc 7 1, 3) := by decide +kernel
theorem dX12_feed_41 : decode cX12_feed 41 = .ok (.goto (-35), 3) := by decide +kernel
theorem dX12_feed_44 : decode cX12_feed 44 = .ok (.aload_n 0, 1) := by decide +kernel
theorem dX12_feed_45 : decode cX12_feed 45 = .ok (.getfield 100, 3) := by decide +kernel
theorem dX12_feed_48 : decode cX12_feed 48 = .ok (.iload 6, 2) := by decide +kernel
theorem dX12_feed_50 : decode cX12_feed 50 = .ok (.iadd, 1) := by decide +kernel
theorem dX12_feed_51 : decode cX12_feed 51 = .ok (.sipush 240, 3) := by decide +kernel
theorem dX12_feed_54 : decode cX12_feed 54 = .ok (.if_icmp .le 5, 3) := by decide +kernel
theorem dX12_feed_57 : decode cX12_feed 57 = .ok (.iconst (-1), 1) := by decide +kernel
theorem dX12_feed_58 : decode cX12_feed 58 = .ok (.ireturn, 1) := by decide +kernel
theorem dX12_feed_59 : decode cX12_feed 59 = .ok (.iconst 0, 1) := by decide +kernel
theorem dX12_feed_60 : decode cX12_feed 60 = .ok (.istore 7, 2) := by decide +kernel
theorem dX12_feed_62 : decode cX12_feed 62 = .ok (.iload 7, 2) := by decide +kernel
theorem dX12_feed_64 : decode cX12_feed 64 = .ok (.bipush 20, 2) := by decide +kernel
theorem dX12_feed_66 : decode cX12_feed 66 = .ok (.if_icmp .ge 49, 3) := by decide +kernel
theorem dX12_feed_69 : decode cX12_feed 69 = .ok (.iload_n 1, 1) := by decide +kernel
theorem dX12_feed_70 : decode cX12_feed 70 = .ok (.iload_n 2, 1) := by decide +kernel
theorem dX12_feed_71 : decode cX12_feed 71 = .ok (.iload_n 3, 1) := by decide +kernel
theorem dX12_feed_72 : decode cX12_feed 72 = .ok (.iload 4, 2) := by decide +kernel
theorem dX12_feed_74 : decode cX12_feed 74 = .ok (.iload 5, 2) := by decide +kernel
theorem dX12_feed_76 : decode cX12_feed 76 = .ok (.iload 7, 2) := by decide +kernel
theorem dX12_feed_78 : decode cX12_feed 78 = .ok (.invokestatic 96, 3) := by decide +kernel
theorem dX12_feed_81 : decode cX12_feed 81 = .ok (.istore 8, 2) := by decide +kernel
theorem dX12_feed_83 : decode cX12_feed 83 = .ok (.iload 8, 2) := by decide +kernel
theorem dX12_feed_85 : decode cX12_feed 85 = .ok (.ifCond .eq 24, 3) := by decide +kernel
theorem dX12_feed_88 : decode cX12_feed 88 = .ok (.aload_n 0, 1) := by decide +kernel
theorem dX12_feed_89 : decode cX12_feed 89 = .ok (.getfield 9, 3) := by decide +kernel
theorem dX12_feed_92 : decode cX12_feed 92 = .ok (.aload_n 0, 1) := by decide +kernel
theorem dX12_feed_93 : decode cX12_feed 93 = .ok (.getfield 100, 3) := by decide +kernel
theorem dX12_feed_96 : decode cX12_feed 96 = .ok (.iload 8, 2) := by decide +kernel
theorem dX12_feed_98 : decode cX12_feed 98 = .ok (.iastore, 1) := by decide +kernel
theorem dX12_feed_99 : decode cX12_feed 99 = .ok (.aload_n 0, 1) := by decide +kernel
theorem dX12_feed_100 : decode cX12_feed 100 = .ok (.dup, 1) := by decide +kernel
theorem dX12_feed_101 : decode cX12_feed 101 = .ok (.getfield 100, 3) := by decide +kernel
theorem dX12_feed_104 : decode cX12_feed 104 = .ok (.iconst 1, 1) := by decide +kernel
theorem dX12_feed_105 : decode cX12_feed 105 = .ok (.iadd, 1) := by decide +kernel
theorem dX12_feed_106 : decode cX12_feed 106 = .ok (.putfield 100, 3) := by decide +kernel
theorem dX12_feed_109 : decode cX12_feed 109 = .ok (.iinc 7 1, 3) := by decide +kernel
theorem dX12_feed_112 : decode cX12_feed 112 = .ok (.goto (-50), 3) := by decide +kernel
theorem dX12_feed_115 : decode cX12_feed 115 = .ok (.aload_n 0, 1) := by decide +kernel
theorem dX12_feed_116 : decode cX12_feed 116 = .ok (.getfield 100, 3) := by decide +kernel
theorem dX12_feed_119 : decode cX12_feed 119 = .ok (.ireturn, 1) := by decide +kernel
theorem dX12_end_0 : decode cX12_end 0 = .ok (.iload_n 1, 1) := by decide +kernel
theorem dX12_end_1 : decode cX12_end 1 = .ok (.ifCond .lt 11, 3) := by decide +kernel
theorem dX12_end_4 : decode cX12_end 4 = .ok (.iload_n 1, 1) := by decide +kernel
theorem dX12_end_5 : decode cX12_end 5 = .ok (.aload_n 0, 1) := by decide +kernel
theorem dX12_end_6 : decode cX12_end 6 = .ok (.getfield 100, 3) := by decide +kernel
theorem dX12_end_9 : decode cX12_end 9 = .ok (.if_icmp .le 5, 3) := by decide +kernel
theorem dX12_end_12 : decode cX12_end 12 = .ok (.iconst 0, 1) := by decide +kernel
theorem dX12_end_13 : decode cX12_end 13 = .ok (.ireturn, 1) := by decide +kernel
theorem dX12_end_14 : decode cX12_end 14 = .ok (.aload_n 0, 1) := by decide +kernel
theorem dX12_end_15 : decode cX12_end 15 = .ok (.iload_n 1, 1) := by decide +kernel
theorem dX12_end_16 : decode cX12_end 16 = .ok (.putfield 100, 3) := by decide +kernel
theorem dX12_end_19 : decode cX12_end 19 = .ok (.iconst 1, 1) := by decide +kernel
theorem dX12_end_20 : decode cX12_end 20 = .ok (.ireturn, 1) := by decide +kernel
theorem dX12_here_0 : decode cX12_here 0 = .ok (.aload_n 0, 1) := by decide +kernel
theorem dX12_here_1 : decode cX12_here 1 = .ok (.getfield 103, 3) := by decide +kernel
theorem dX12_here_4 : decode cX12_here 4 = .ok (.aload_n 0, 1) := by decide +kernel
theorem dX12_here_5 : decode cX12_here 5 = .ok (.getfield 100, 3) := by decide +kernel
theorem dX12_here_8 : decode cX12_here 8 = .ok (.if_icmp .ge 15, 3) := by decide +kernel
theorem dX12_here_11 : decode cX12_here 11 = .ok (.aload_n 0, 1) := by decide +kernel
theorem dX12_here_12 : decode cX12_here 12 = .ok (.getfield 9, 3) := by decide +kernel
theorem dX12_here_15 : decode cX12_here 15 = .ok (.aload_n 0, 1) := by decide +kernel
theorem dX12_here_16 : decode cX12_here 16 = .ok (.getfield 103, 3) := by decide +kernel
theorem dX12_here_19 : decode cX12_here 19 = .ok (.iaload, 1) := by decide +kernel
theorem dX12_here_20 : decode cX12_here 20 = .ok (.goto 4, 3) := by decide +kernel
theorem dX12_here_23 : decode cX12_here 23 = .ok (.iconst (-1), 1) := by decide +kernel
theorem dX12_here_24 : decode cX12_here 24 = .ok (.ireturn, 1) := by decide +kernel
theorem dX12_look_0 : decode cX12_look 0 = .ok (.aload_n 0, 1) := by decide +kernel
theorem dX12_look_1 : decode cX12_look 1 = .ok (.invokevirtual 106, 3) := by decide +kernel
theorem dX12_look_4 : decode cX12_look 4 = .ok (.bipush 32, 2) := by decide +kernel
theorem dX12_look_6 : decode cX12_look 6 = .ok (.if_icmp .ne 16, 3) := by decide +kernel
theorem dX12_look_9 : decode cX12_look 9 = .ok (.aload_n 0, 1) := by decide +kernel
theorem dX12_look_10 : decode cX12_look 10 = .ok (.dup, 1) := by decide +kernel
theorem dX12_look_11 : decode cX12_look 11 = .ok (.getfield 103, 3) := by decide +kernel
theorem dX12_look_14 : decode cX12_look 14 = .ok (.iconst 1, 1) := by decide +kernel
theorem dX12_look_15 : decode cX12_look 15 = .ok (.iadd, 1) := by decide +kernel
theorem dX12_look_16 : decode cX12_look 16 = .ok (.putfield 103, 3) := by decide +kernel
theorem dX12_look_19 : decode cX12_look 19 = .ok (.goto (-19), 3) := by decide +kernel
theorem dX12_look_22 : decode cX12_look 22 = .ok (.aload_n 0, 1) := by decide +kernel
theorem dX12_look_23 : decode cX12_look 23 = .ok (.invokevirtual 106, 3) := by decide +kernel
theorem dX12_look_26 : decode cX12_look 26 = .ok (.ireturn, 1) := by decide +kernel
theorem dX12_bad_0 : decode cX12_bad 0 = .ok (.aload_n 0, 1) := by decide +kernel
theorem dX12_bad_1 : decode cX12_bad 1 = .ok (.aload_n 0, 1) := by decide +kernel
theorem dX12_bad_2 : decode cX12_bad 2 = .ok (.getfield 110, 3) := by decide +kernel
theorem dX12_bad_5 : decode cX12_bad 5 = .ok (.iconst (-1), 1) := by decide +kernel
theorem dX12_bad_6 : decode cX12_bad 6 = .ok (.if_icmp .ne 10, 3) := by decide +kernel
theorem dX12_bad_9 : decode cX12_bad 9 = .ok (.aload_n 0, 1) := by decide +kernel
theorem dX12_bad_10 : decode cX12_bad 10 = .ok (.getfield 103, 3) := by decide +kernel
theorem dX12_bad_13 : decode cX12_bad 13 = .ok (.goto 7, 3) := by decide +kernel
theorem dX12_bad_16 : decode cX12_bad 16 = .ok (.aload_n 0, 1) := by decide +kernel
theorem dX12_bad_17 : decode cX12_bad 17 = .ok (.getfield 110, 3) := by decide +kernel
theorem dX12_bad_20 : decode cX12_bad 20 = .ok (.putfield 110, 3) := by decide +kernel
theorem dX12_bad_23 : decode cX12_bad 23 = .ok (.return_, 1) := by decide +kernel
theorem dX12_isDigit_0 : decode cX12_isDigit 0 = .ok (.iload_n 0, 1) := by decide +kernel
theorem dX12_isDigit_1 : decode cX12_isDigit 1 = .ok (.bipush 48, 2) := by decide +kernel
theorem dX12_isDigit_3 : decode cX12_isDigit 3 = .ok (.if_icmp .lt 13, 3) := by decide +kernel
theorem dX12_isDigit_6 : decode cX12_isDigit 6 = .ok (.iload_n 0, 1) := by decide +kernel
theorem dX12_isDigit_7 : decode cX12_isDigit 7 = .ok (.bipush 57, 2) := by decide +kernel
theorem dX12_isDigit_9 : decode cX12_isDigit 9 = .ok (.if_icmp .gt 7, 3) := by decide +kernel
theorem dX12_isDigit_12 : decode cX12_isDigit 12 = .ok (.iconst 1, 1) := by decide +kernel
theorem dX12_isDigit_13 : decode cX12_isDigit 13 = .ok (.goto 4, 3) := by decide +kernel
theorem dX12_isDigit_16 : decode cX12_isDigit 16 = .ok (.iconst 0, 1) := by decide +kernel
theorem dX12_isDigit_17 : decode cX12_isDigit 17 = .ok (.ireturn, 1) := by decide +kernel
theorem dX12_put_0 : decode cX12_put 0 = .ok (.aload_n 0, 1) := by decide +kernel
theorem dX12_put_1 : decode cX12_put 1 = .ok (.getfield 13, 3) := by decide +kernel
theorem dX12_put_4 : decode cX12_put 4 = .ok (.sipush 520, 3) := by decide +kernel
theorem dX12_put_7 : decode cX12_put 7 = .ok (.aload_n 0, 1) := by decide +kernel
theorem dX12_put_8 : decode cX12_put 8 = .ok (.getfield 113, 3) := by decide +kernel
theorem dX12_put_11 : decode cX12_put 11 = .ok (.imul, 1) := by decide +kernel
theorem dX12_put_12 : decode cX12_put 12 = .ok (.aload_n 0, 1) := by decide +kernel
theorem dX12_put_13 : decode cX12_put 13 = .ok (.getfield 19, 3) := by decide +kernel
theorem dX12_put_16 : decode cX12_put 16 = .ok (.aload_n 0, 1) := by decide +kernel
theorem dX12_put_17 : decode cX12_put 17 = .ok (.getfield 113, 3) := by decide +kernel
theorem dX12_put_20 : decode cX12_put 20 = .ok (.iaload, 1) := by decide +kernel
theorem dX12_put_21 : decode cX12_put 21 = .ok (.iadd, 1) := by decide +kernel
theorem dX12_put_22 : decode cX12_put 22 = .ok (.iload_n 1, 1) := by decide +kernel
theorem dX12_put_23 : decode cX12_put 23 = .ok (.iastore, 1) := by decide +kernel
theorem dX12_put_24 : decode cX12_put 24 = .ok (.aload_n 0, 1) := by decide +kernel
theorem dX12_put_25 : decode cX12_put 25 = .ok (.getfield 16, 3) := by decide +kernel
theorem dX12_put_28 : decode cX12_put 28 = .ok (.sipush 520, 3) := by decide +kernel
theorem dX12_put_31 : decode cX12_put 31 = .ok (.aload_n 0, 1) := by decide +kernel
theorem dX12_put_32 : decode cX12_put 32 = .ok (.getfield 113, 3) := by decide +kernel
theorem dX12_put_35 : decode cX12_put 35 = .ok (.imul, 1) := by decide +kernel
theorem dX12_put_36 : decode cX12_put 36 = .ok (.aload_n 0, 1) := by decide +kernel
theorem dX12_put_37 : decode cX12_put 37 = .ok (.getfield 19, 3) := by decide +kernel
theorem dX12_put_40 : decode cX12_put 40 = .ok (.aload_n 0, 1) := by decide +kernel
theorem dX12_put_41 : decode cX12_put 41 = .ok (.getfield 113, 3) := by decide +kernel
theorem dX12_put_44 : decode cX12_put 44 = .ok (.iaload, 1) := by decide +kernel
theorem dX12_put_45 : decode cX12_put 45 = .ok (.iadd, 1) := by decide +kernel
theorem dX12_put_46 : decode cX12_put 46 = .ok (.iload_n 2, 1) := by decide +kernel
theorem dX12_put_47 : decode cX12_put 47 = .ok (.iastore, 1) := by decide +kernel
theorem dX12_put_48 : decode cX12_put 48 = .ok (.aload_n 0, 1) := by decide +kernel
theorem dX12_put_49 : decode cX12_put 49 = .ok (.getfield 19, 3) := by decide +kernel
theorem dX12_put_52 : decode cX12_put 52 = .ok (.aload_n 0, 1) := by decide +kernel
theorem dX12_put_53 : decode cX12_put 53 = .ok (.getfield 113, 3) := by decide +kernel
theorem dX12_put_56 : decode cX12_put 56 = .ok (.dup2, 1) := by decide +kernel
theorem dX12_put_57 : decode cX12_put 57 = .ok (.iaload, 1) := by decide +kernel
theorem dX12_put_58 : decode cX12_put 58 = .ok (.iconst 1, 1) := by decide +kernel
theorem dX12_put_59 : decode cX12_put 59 = .ok (.iadd, 1) := by decide +kernel
theorem dX12_put_60 : decode cX12_put 60 = .ok (.iastore, 1) := by decide +kernel
theorem dX12_put_61 : decode cX12_put 61 = .ok (.return_, 1) := by decide +kernel
theorem dX12_letterOf_0 : decode cX12_letterOf 0 = .ok (.iload_n 0, 1) := by decide +kernel
theorem dX12_letterOf_1 : decode cX12_letterOf 1 = .ok (.bipush 118, 2) := by decide +kernel
theorem dX12_letterOf_3 : decode cX12_letterOf 3 = .ok (.if_icmp .ne 7, 3) := by decide +kernel
theorem dX12_letterOf_6 : decode cX12_letterOf 6 = .ok (.iconst 0, 1) := by decide +kernel
theorem dX12_letterOf_7 : decode cX12_letterOf 7 = .ok (.goto 54, 3) := by decide +kernel
theorem dX12_letterOf_10 : decode cX12_letterOf 10 = .ok (.iload_n 0, 1) := by decide +kernel
theorem dX12_letterOf_11 : decode cX12_letterOf 11 = .ok (.bipush 112, 2) := by decide +kernel
theorem dX12_letterOf_13 : decode cX12_letterOf 13 = .ok (.if_icmp .ne 7, 3) := by decide +kernel
theorem dX12_letterOf_16 : decode cX12_letterOf 16 = .ok (.iconst 1, 1) := by decide +kernel
theorem dX12_letterOf_17 : decode cX12_letterOf 17 = .ok (.goto 44, 3) := by decide +kernel
theorem dX12_letterOf_20 : decode cX12_letterOf 20 = .ok (.iload_n 0, 1) := by decide +kernel
theorem dX12_letterOf_21 : decode cX12_letterOf 21 = .ok (.bipush 108, 2) := by decide +kernel
theorem dX12_letterOf_23 : decode cX12_letterOf 23 = .ok (.if_icmp .ne 7, 3) := by decide +kernel
theorem dX12_letterOf_26 : decode cX12_letterOf 26 = .ok (.iconst 2, 1) := by decide +kernel
theorem dX12_letterOf_27 : decode cX12_letterOf 27 = .ok (.goto 34, 3) := by decide +kernel
theorem dX12_letterOf_30 : decode cX12_letterOf 30 = .ok (.iload_n 0, 1) := by decide +kernel
theorem dX12_letterOf_31 : decode cX12_letterOf 31 = .ok (.bipush 110, 2) := by decide +kernel
theorem dX12_letterOf_33 : decode cX12_letterOf 33 = .ok (.if_icmp .ne 7, 3) := by decide +kernel
theorem dX12_letterOf_36 : decode cX12_letterOf 36 = .ok (.iconst 3, 1) := by decide +kernel
theorem dX12_letterOf_37 : decode cX12_letterOf 37 = .ok (.goto 24, 3) := by decide +kernel
theorem dX12_letterOf_40 : decode cX12_letterOf 40 = .ok (.iload_n 0, 1) := by decide +kernel
theorem dX12_letterOf_41 : decode cX12_letterOf 41 = .ok (.bipush 116, 2) := by decide +kernel
theorem dX12_letterOf_43 : decode cX12_letterOf 43 = .ok (.if_icmp .ne 7, 3) := by decide +kernel
theorem dX12_letterOf_46 : decode cX12_letterOf 46 = .ok (.iconst 4, 1) := by decide +kernel
theorem dX12_letterOf_47 : decode cX12_letterOf 47 = .ok (.goto 14, 3) := by decide +kernel
theorem dX12_letterOf_50 : decode cX12_letterOf 50 = .ok (.iload_n 0, 1) := by decide +kernel
theorem dX12_letterOf_51 : decode cX12_letterOf 51 = .ok (.bipush 102, 2) := by decide +kernel
theorem dX12_letterOf_53 : decode cX12_letterOf 53 = .ok (.if_icmp .ne 7, 3) := by decide +kernel
theorem dX12_letterOf_56 : decode cX12_letterOf 56 = .ok (.iconst 5, 1) := by decide +kernel
theorem dX12_letterOf_57 : decode cX12_letterOf 57 = .ok (.goto 4, 3) := by decide +kernel
theorem dX12_letterOf_60 : decode cX12_letterOf 60 = .ok (.iconst (-1), 1) := by decide +kernel
theorem dX12_letterOf_61 : decode cX12_letterOf 61 = .ok (.ireturn, 1) := by decide +kernel
theorem dX12_opens_0 : decode cX12_opens 0 = .ok (.aload_n 0, 1) := by decide +kernel
theorem dX12_opens_1 : decode cX12_opens 1 = .ok (.getfield 116, 3) := by decide +kernel
theorem dX12_opens_4 : decode cX12_opens 4 = .ok (.bipush 6, 2) := by decide +kernel
theorem dX12_opens_6 : decode cX12_opens 6 = .ok (.if_icmp .ne 7, 3) := by decide +kernel
theorem dX12_opens_9 : decode cX12_opens 9 = .ok (.aload_n 0, 1) := by decide +kernel
theorem dX12_opens_10 : decode cX12_opens 10 = .ok (.invokevirtual 119, 3) := by decide +kernel
theorem dX12_opens_13 : decode cX12_opens 13 = .ok (.aload_n 0, 1) := by decide +kernel
theorem dX12_opens_14 : decode cX12_opens 14 = .ok (.dup, 1) := by decide +kernel
theorem dX12_opens_15 : decode cX12_opens 15 = .ok (.getfield 116, 3) := by decide +kernel
theorem dX12_opens_18 : decode cX12_opens 18 = .ok (.iconst 1, 1) := by decide +kernel
theorem dX12_opens_19 : decode cX12_opens 19 = .ok (.iadd, 1) := by decide +kernel
theorem dX12_opens_20 : decode cX12_opens 20 = .ok (.putfield 116, 3) := by decide +kernel
theorem dX12_opens_23 : decode cX12_opens 23 = .ok (.aload_n 0, 1) := by decide +kernel
theorem dX12_opens_24 : decode cX12_opens 24 = .ok (.dup, 1) := by decide +kernel
theorem dX12_opens_25 : decode cX12_opens 25 = .ok (.getfield 103, 3) := by decide +kernel
theorem dX12_opens_28 : decode cX12_opens 28 = .ok (.iconst 1, 1) := by decide +kernel
theorem dX12_opens_29 : decode cX12_opens 29 = .ok (.iadd, 1) := by decide +kernel
theorem dX12_opens_30 : decode cX12_opens 30 = .ok (.putfield 103, 3) := by decide +kernel
theorem dX12_opens_33 : decode cX12_opens 33 = .ok (.return_, 1) := by decide +kernel
theorem dX12_closes_0 : decode cX12_closes 0 = .ok (.aload_n 0, 1) := by decide +kernel
theorem dX12_closes_1 : decode cX12_closes 1 = .ok (.getfield 110, 3) := by decide +kernel
theorem dX12_closes_4 : decode cX12_closes 4 = .ok (.iconst (-1), 1) := by decide +kernel
theorem dX12_closes_5 : decode cX12_closes 5 = .ok (.if_icmp .ne 15, 3) := by decide +kernel
theorem dX12_closes_8 : decode cX12_closes 8 = .ok (.aload_n 0, 1) := by decide +kernel
theorem dX12_closes_9 : decode cX12_closes 9 = .ok (.invokevirtual 122, 3) := by decide +kernel
theorem dX12_closes_12 : decode cX12_closes 12 = .ok (.iload_n 1, 1) := by decide +kernel
theorem dX12_closes_13 : decode cX12_closes 13 = .ok (.if_icmp .eq 7, 3) := by decide +kernel
theorem dX12_closes_16 : decode cX12_closes 16 = .ok (.aload_n 0, 1) := by decide +kernel
theorem dX12_closes_17 : decode cX12_closes 17 = .ok (.invokevirtual 119, 3) := by decide +kernel
theorem dX12_closes_20 : decode cX12_closes 20 = .ok (.aload_n 0, 1) := by decide +kernel
theorem dX12_closes_21 : decode cX12_closes 21 = .ok (.dup, 1) := by decide +kernel
theorem dX12_closes_22 : decode cX12_closes 22 = .ok (.getfield 103, 3) := by decide +kernel
theorem dX12_closes_25 : decode cX12_closes 25 = .ok (.iconst 1, 1) := by decide +kernel
theorem dX12_closes_26 : decode cX12_closes 26 = .ok (.iadd, 1) := by decide +kernel
theorem dX12_closes_27 : decode cX12_closes 27 = .ok (.putfield 103, 3) := by decide +kernel
theorem dX12_closes_30 : decode cX12_closes 30 = .ok (.aload_n 0, 1) := by decide +kernel
theorem dX12_closes_31 : decode cX12_closes 31 = .ok (.dup, 1) := by decide +kernel
theorem dX12_closes_32 : decode cX12_closes 32 = .ok (.getfield 116, 3) := by decide +kernel
theorem dX12_closes_35 : decode cX12_closes 35 = .ok (.iconst 1, 1) := by decide +kernel
theorem dX12_closes_36 : decode cX12_closes 36 = .ok (.isub, 1) := by decide +kernel
theorem dX12_closes_37 : decode cX12_closes 37 = .ok (.putfield 116, 3) := by decide +kernel
theorem dX12_closes_40 : decode cX12_closes 40 = .ok (.return_, 1) := by decide +kernel
theorem dX12_plainNumber_0 : decode cX12_plainNumber 0 = .ok (.iconst 0, 1) := by decide +kernel
theorem dX12_plainNumber_1 : decode cX12_plainNumber 1 = .ok (.istore_n 1, 1) := by decide +kernel
theorem dX12_plainNumber_2 : decode cX12_plainNumber 2 = .ok (.iconst 0, 1) := by decide +kernel
theorem dX12_plainNumber_3 : decode cX12_plainNumber 3 = .ok (.istore_n 2, 1) := by decide +kernel
theorem dX12_plainNumber_4 : decode cX12_plainNumber 4 = .ok (.iload_n 2, 1) := by decide +kernel
theorem dX12_plainNumber_5 : decode cX12_plainNumber 5 = .ok (.iconst 4, 1) := by decide +kernel
theorem dX12_plainNumber_6 : decode cX12_plainNumber 6 = .ok (.if_icmp .ge 42, 3) := by decide +kernel
theorem dX12_plainNumber_9 : decode cX12_plainNumber 9 = .ok (.aload_n 0, 1) := by decide +kernel
theorem dX12_plainNumber_10 : decode cX12_plainNumber 10 = .ok (.invokevirtual 106, 3) := by decide +kernel
theorem dX12_plainNumber_13 : decode cX12_plainNumber 13 = .ok (.invokestatic 125, 3) := by decide +kernel
theorem dX12_plainNumber_16 : decode cX12_plainNumber 16 = .ok (.ifCond .eq 32, 3) := by decide +kernel
theorem dX12_plainNumber_19 : decode cX12_plainNumber 19 = .ok (.bipush 10, 2) := by decide +kernel
theorem dX12_plainNumber_21 : decode cX12_plainNumber 21 = .ok (.iload_n 1, 1) := by decide +kernel
theorem dX12_plainNumber_22 : decode cX12_plainNumber 22 = .ok (.imul, 1) := by decide +kernel
theorem dX12_plainNumber_23 : decode cX12_plainNumber 23 = .ok (.aload_n 0, 1) := by decide +kernel
theorem dX12_plainNumber_24 : decode cX12_plainNumber 24 = .ok (.invokevirtual 106, 3) := by decide +kernel
theorem dX12_plainNumber_27 : decode cX12_plainNumber 27 = .ok (.iadd, 1) := by decide +kernel
theorem dX12_plainNumber_28 : decode cX12_plainNumber 28 = .ok (.bipush 48, 2) := by decide +kernel
theorem dX12_plainNumber_30 : decode cX12_plainNumber 30 = .ok (.isub, 1) := by decide +kernel
theorem dX12_plainNumber_31 : decode cX12_plainNumber 31 = .ok (.istore_n 1, 1) := by decide +kernel
theorem dX12_plainNumber_32 : decode cX12_plainNumber 32 = .ok (.aload_n 0, 1) := by decide +kernel
theorem dX12_plainNumber_33 : decode cX12_plainNumber 33 = .ok (.dup, 1) := by decide +kernel
theorem dX12_plainNumber_34 : decode cX12_plainNumber 34 = .ok (.getfield 103, 3) := by decide +kernel
theorem dX12_plainNumber_37 : decode cX12_plainNumber 37 = .ok (.iconst 1, 1) := by decide +kernel
theorem dX12_plainNumber_38 : decode cX12_plainNumber 38 = .ok (.iadd, 1) := by decide +kernel
theorem dX12_plainNumber_39 : decode cX12_plainNumber 39 = .ok (.putfield 103, 3) := by decide +kernel
theorem dX12_plainNumber_42 : decode cX12_plainNumber 42 = .ok (.iinc 2 1, 3) := by decide +kernel
theorem dX12_plainNumber_45 : decode cX12_plainNumber 45 = .ok (.goto (-41), 3) := by decide +kernel
theorem dX12_plainNumber_48 : decode cX12_plainNumber 48 = .ok (.aload_n 0, 1) := by decide +kernel
theorem dX12_plainNumber_49 : decode cX12_plainNumber 49 = .ok (.invokevirtual 106, 3) := by decide +kernel
theorem dX12_plainNumber_52 : decode cX12_plainNumber 52 = .ok (.invokestatic 125, 3) := by decide +kernel
theorem dX12_plainNumber_55 : decode cX12_plainNumber 55 = .ok (.ifCond .eq 7, 3) := by decide +kernel
theorem dX12_plainNumber_58 : decode cX12_plainNumber 58 = .ok (.aload_n 0, 1) := by decide +kernel
theorem dX12_plainNumber_59 : decode cX12_plainNumber 59 = .ok (.invokevirtual 119, 3) := by decide +kernel
theorem dX12_plainNumber_62 : decode cX12_plainNumber 62 = .ok (.iload_n 1, 1) := by decide +kernel
theorem dX12_plainNumber_63 : decode cX12_plainNumber 63 = .ok (.ireturn, 1) := by decide +kernel
theorem dX12_atom_0 : decode cX12_atom 0 = .ok (.aload_n 0, 1) := by decide +kernel
theorem dX12_atom_1 : decode cX12_atom 1 = .ok (.invokevirtual 122, 3) := by decide +kernel
theorem dX12_atom_4 : decode cX12_atom 4 = .ok (.istore_n 1, 1) := by decide +kernel
theorem dX12_atom_5 : decode cX12_atom 5 = .ok (.iload_n 1, 1) := by decide +kernel
theorem dX12_atom_6 : decode cX12_atom 6 = .ok (.invokestatic 125, 3) := by decide +kernel
theorem dX12_atom_9 : decode cX12_atom 9 = .ok (.ifCond .eq 15, 3) := by decide +kernel
theorem dX12_atom_12 : decode cX12_atom 12 = .ok (.aload_n 0, 1) := by decide +kernel
theorem dX12_atom_13 : decode cX12_atom 13 = .ok (.iconst 0, 1) := by decide +kernel
theorem dX12_atom_14 : decode cX12_atom 14 = .ok (.aload_n 0, 1) := by decide +kernel
theorem dX12_atom_15 : decode cX12_atom 15 = .ok (.invokevirtual 129, 3) := by decide +kernel
theorem dX12_atom_18 : decode cX12_atom 18 = .ok (.invokevirtual 132, 3) := by decide +kernel
theorem dX12_atom_21 : decode cX12_atom 21 = .ok (.goto 68, 3) := by decide +kernel
theorem dX12_atom_24 : decode cX12_atom 24 = .ok (.iload_n 1, 1) := by decide +kernel
theorem dX12_atom_25 : decode cX12_atom 25 = .ok (.invokestatic 136, 3) := by decide +kernel
theorem dX12_atom_28 : decode cX12_atom 28 = .ok (.iconst (-1), 1) := by decide +kernel
theorem dX12_atom_29 : decode cX12_atom 29 = .ok (.if_icmp .eq 25, 3) := by decide +kernel
theorem dX12_atom_32 : decode cX12_atom 32 = .ok (.aload_n 0, 1) := by decide +kernel
theorem dX12_atom_33 : decode cX12_atom 33 = .ok (.dup, 1) := by decide +kernel
theorem dX12_atom_34 : decode cX12_atom 34 = .ok (.getfield 103, 3) := by decide +kernel
theorem dX12_atom_37 : decode cX12_atom 37 = .ok (.iconst 1, 1) := by decide +kernel
theorem dX12_atom_38 : decode cX12_atom 38 = .ok (.iadd, 1) := by decide +kernel
theorem dX12_atom_39 : decode cX12_atom 39 = .ok (.putfield 103, 3) := by decide +kernel
theorem dX12_atom_42 : decode cX12_atom 42 = .ok (.aload_n 0, 1) := by decide +kernel
theorem dX12_atom_43 : decode cX12_atom 43 = .ok (.iconst 1, 1) := by decide +kernel
theorem dX12_atom_44 : decode cX12_atom 44 = .ok (.iload_n 1, 1) := by decide +kernel
theorem dX12_atom_45 : decode cX12_atom 45 = .ok (.invokestatic 136, 3) := by decide +kernel
theorem dX12_atom_48 : decode cX12_atom 48 = .ok (.invokevirtual 132, 3) := by decide +kernel
theorem dX12_atom_51 : decode cX12_atom 51 = .ok (.goto 38, 3) := by decide +kernel
theorem dX12_atom_54 : decode cX12_atom 54 = .ok (.iload_n 1, 1) := by decide +kernel
theorem dX12_atom_55 : decode cX12_atom 55 = .ok (.bipush 91, 2) := by decide +kernel
theorem dX12_atom_57 : decode cX12_atom 57 = .ok (.if_icmp .ne 28, 3) := by decide +kernel
theorem dX12_atom_60 : decode cX12_atom 60 = .ok (.aload_n 0, 1) := by decide +kernel
theorem dX12_atom_61 : decode cX12_atom 61 = .ok (.invokevirtual 140, 3) := by decide +kernel
theorem dX12_atom_64 : decode cX12_atom 64 = .ok (.aload_n 0, 1) := by decide +kernel
theorem dX12_atom_65 : decode cX12_atom 65 = .ok (.getfield 110, 3) := by decide +kernel
theorem dX12_atom_68 : decode cX12_atom 68 = .ok (.iconst (-1), 1) := by decide +kernel
theorem dX12_atom_69 : decode cX12_atom 69 = .ok (.if_icmp .ne 20, 3) := by decide +kernel
theorem dX12_atom_72 : decode cX12_atom 72 = .ok (.aload_n 0, 1) := by decide +kernel
theorem dX12_atom_73 : decode cX12_atom 73 = .ok (.invokevirtual 143, 3) := by decide +kernel
theorem dX12_atom_76 : decode cX12_atom 76 = .ok (.aload_n 0, 1) := by decide +kernel
theorem dX12_atom_77 : decode cX12_atom 77 = .ok (.bipush 93, 2) := by decide +kernel
theorem dX12_atom_79 : decode cX12_atom 79 = .ok (.invokevirtual 146, 3) := by decide +kernel
theorem dX12_atom_82 : decode cX12_atom 82 = .ok (.goto 7, 3) := by decide +kernel
theorem dX12_atom_85 : decode cX12_atom 85 = .ok (.aload_n 0, 1) := by decide +kernel
theorem dX12_atom_86 : decode cX12_atom 86 = .ok (.invokevirtual 119, 3) := by decide +kernel
theorem dX12_atom_89 : decode cX12_atom 89 = .ok (.return_, 1) := by decide +kernel
theorem dX12_term_0 : decode cX12_term 0 = .ok (.aload_n 0, 1) := by decide +kernel
theorem dX12_term_1 : decode cX12_term 1 = .ok (.invokevirtual 150, 3) := by decide +kernel
theorem dX12_term_4 : decode cX12_term 4 = .ok (.aload_n 0, 1) := by decide +kernel
theorem dX12_term_5 : decode cX12_term 5 = .ok (.getfield 110, 3) := by decide +kernel
theorem dX12_term_8 : decode cX12_term 8 = .ok (.iconst (-1), 1) := by decide +kernel
theorem dX12_term_9 : decode cX12_term 9 = .ok (.if_icmp .ne 10, 3) := by decide +kernel
theorem dX12_term_12 : decode cX12_term 12 = .ok (.aload_n 0, 1) := by decide +kernel
theorem dX12_term_13 : decode cX12_term 13 = .ok (.invokevirtual 122, 3) := by decide +kernel
theorem dX12_term_16 : decode cX12_term 16 = .ok (.goto 4, 3) := by decide +kernel
theorem dX12_term_19 : decode cX12_term 19 = .ok (.iconst (-1), 1) := by decide +kernel
theorem dX12_term_20 : decode cX12_term 20 = .ok (.istore_n 1, 1) := by decide +kernel
theorem dX12_term_21 : decode cX12_term 21 = .ok (.iload_n 1, 1) := by decide +kernel
theorem dX12_term_22 : decode cX12_term 22 = .ok (.bipush 42, 2) := by decide +kernel
theorem dX12_term_24 : decode cX12_term 24 = .ok (.if_icmp .eq 9, 3) := by decide +kernel
theorem dX12_term_27 : decode cX12_term 27 = .ok (.iload_n 1, 1) := by decide +kernel
theorem dX12_term_28 : decode cX12_term 28 = .ok (.bipush 47, 2) := by decide +kernel
theorem dX12_term_30 : decode cX12_term 30 = .ok (.if_icmp .ne 53, 3) := by decide +kernel
theorem dX12_term_33 : decode cX12_term 33 = .ok (.aload_n 0, 1) := by decide +kernel
theorem dX12_term_34 : decode cX12_term 34 = .ok (.dup, 1) := by decide +kernel
theorem dX12_term_35 : decode cX12_term 35 = .ok (.getfield 103, 3) := by decide +kernel
theorem dX12_term_38 : decode cX12_term 38 = .ok (.iconst 1, 1) := by decide +kernel
theorem dX12_term_39 : decode cX12_term 39 = .ok (.iadd, 1) := by decide +kernel
theorem dX12_term_40 : decode cX12_term 40 = .ok (.putfield 103, 3) := by decide +kernel
theorem dX12_term_43 : decode cX12_term 43 = .ok (.aload_n 0, 1) := by decide +kernel
theorem dX12_term_44 : decode cX12_term 44 = .ok (.invokevirtual 150, 3) := by decide +kernel
theorem dX12_term_47 : decode cX12_term 47 = .ok (.aload_n 0, 1) := by decide +kernel
theorem dX12_term_48 : decode cX12_term 48 = .ok (.iload_n 1, 1) := by decide +kernel
theorem dX12_term_49 : decode cX12_term 49 = .ok (.bipush 42, 2) := by decide +kernel
theorem dX12_term_51 : decode cX12_term 51 = .ok (.if_icmp .ne 7, 3) := by decide +kernel
theorem dX12_term_54 : decode cX12_term 54 = .ok (.iconst 4, 1) := by decide +kernel
theorem dX12_term_55 : decode cX12_term 55 = .ok (.goto 4, 3) := by decide +kernel
theorem dX12_term_58 : decode cX12_term 58 = .ok (.iconst 5, 1) := by decide +kernel
theorem dX12_term_59 : decode cX12_term 59 = .ok (.iconst 0, 1) := by decide +kernel
theorem dX12_term_60 : decode cX12_term 60 = .ok (.invokevirtual 132, 3) := by decide +kernel
theorem dX12_term_63 : decode cX12_term 63 = .ok (.aload_n 0, 1) := by decide +kernel
theorem dX12_term_64 : decode cX12_term 64 = .ok (.getfield 110, 3) := by decide +kernel
theorem dX12_term_67 : decode cX12_term 67 = .ok (.iconst (-1), 1) := by decide +kernel
theorem dX12_term_68 : decode cX12_term 68 = .ok (.if_icmp .ne 10, 3) := by decide +kernel
theorem dX12_term_71 : decode cX12_term 71 = .ok (.aload_n 0, 1) := by decide +kernel
theorem dX12_term_72 : decode cX12_term 72 = .ok (.invokevirtual 122, 3) := by decide +kernel
theorem dX12_term_75 : decode cX12_term 75 = .ok (.goto 4, 3) := by decide +kernel
theorem dX12_term_78 : decode cX12_term 78 = .ok (.iconst (-1), 1) := by decide +kernel
theorem dX12_term_79 : decode cX12_term 79 = .ok (.istore_n 1, 1) := by decide +kernel
theorem dX12_term_80 : decode cX12_term 80 = .ok (.goto (-59), 3) := by decide +kernel
theorem dX12_term_83 : decode cX12_term 83 = .ok (.return_, 1) := by decide +kernel
theorem dX12_sum_0 : decode cX12_sum 0 = .ok (.aload_n 0, 1) := by decide +kernel
theorem dX12_sum_1 : decode cX12_sum 1 = .ok (.invokevirtual 153, 3) := by decide +kernel
theorem dX12_sum_4 : decode cX12_sum 4 = .ok (.aload_n 0, 1) := by decide +kernel
theorem dX12_sum_5 : decode cX12_sum 5 = .ok (.getfield 110, 3) := by decide +kernel
theorem dX12_sum_8 : decode cX12_sum 8 = .ok (.iconst (-1), 1) := by decide +kernel
theorem dX12_sum_9 : decode cX12_sum 9 = .ok (.if_icmp .ne 10, 3) := by decide +kernel
theorem dX12_sum_12 : decode cX12_sum 12 = .ok (.aload_n 0, 1) := by decide +kernel
theorem dX12_sum_13 : decode cX12_sum 13 = .ok (.invokevirtual 122, 3) := by decide +kernel
theorem dX12_sum_16 : decode cX12_sum 16 = .ok (.goto 4, 3) := by decide +kernel
theorem dX12_sum_19 : decode cX12_sum 19 = .ok (.iconst (-1), 1) := by decide +kernel
theorem dX12_sum_20 : decode cX12_sum 20 = .ok (.istore_n 1, 1) := by decide +kernel
theorem dX12_sum_21 : decode cX12_sum 21 = .ok (.iload_n 1, 1) := by decide +kernel
theorem dX12_sum_22 : decode cX12_sum 22 = .ok (.bipush 43, 2) := by decide +kernel
theorem dX12_sum_24 : decode cX12_sum 24 = .ok (.if_icmp .eq 9, 3) := by decide +kernel
theorem dX12_sum_27 : decode cX12_sum 27 = .ok (.iload_n 1, 1) := by decide +kernel
theorem dX12_sum_28 : decode cX12_sum 28 = .ok (.bipush 45, 2) := by decide +kernel
theorem dX12_sum_30 : decode cX12_sum 30 = .ok (.if_icmp .ne 53, 3) := by decide +kernel
theorem dX12_sum_33 : decode cX12_sum 33 = .ok (.aload_n 0, 1) := by decide +kernel
theorem dX12_sum_34 : decode cX12_sum 34 = .ok (.dup, 1) := by decide +kernel
theorem dX12_sum_35 : decode cX12_sum 35 = .ok (.getfield 103, 3) := by decide +kernel
theorem dX12_sum_38 : decode cX12_sum 38 = .ok (.iconst 1, 1) := by decide +kernel
theorem dX12_sum_39 : decode cX12_sum 39 = .ok (.iadd, 1) := by decide +kernel
theorem dX12_sum_40 : decode cX12_sum 40 = .ok (.putfield 103, 3) := by decide +kernel
theorem dX12_sum_43 : decode cX12_sum 43 = .ok (.aload_n 0, 1) := by decide +kernel
theorem dX12_sum_44 : decode cX12_sum 44 = .ok (.invokevirtual 153, 3) := by decide +kernel
theorem dX12_sum_47 : decode cX12_sum 47 = .ok (.aload_n 0, 1) := by decide +kernel
theorem dX12_sum_48 : decode cX12_sum 48 = .ok (.iload_n 1, 1) := by decide +kernel
theorem dX12_sum_49 : decode cX12_sum 49 = .ok (.bipush 43, 2) := by decide +kernel
theorem dX12_sum_51 : decode cX12_sum 51 = .ok (.if_icmp .ne 7, 3) := by decide +kernel
theorem dX12_sum_54 : decode cX12_sum 54 = .ok (.iconst 2, 1) := by decide +kernel
theorem dX12_sum_55 : decode cX12_sum 55 = .ok (.goto 4, 3) := by decide +kernel
theorem dX12_sum_58 : decode cX12_sum 58 = .ok (.iconst 3, 1) := by decide +kernel
theorem dX12_sum_59 : decode cX12_sum 59 = .ok (.iconst 0, 1) := by decide +kernel
theorem dX12_sum_60 : decode cX12_sum 60 = .ok (.invokevirtual 132, 3) := by decide +kernel
theorem dX12_sum_63 : decode cX12_sum 63 = .ok (.aload_n 0, 1) := by decide +kernel
theorem dX12_sum_64 : decode cX12_sum 64 = .ok (.getfield 110, 3) := by decide +kernel
theorem dX12_sum_67 : decode cX12_sum 67 = .ok (.iconst (-1), 1) := by decide +kernel
theorem dX12_sum_68 : decode cX12_sum 68 = .ok (.if_icmp .ne 10, 3) := by decide +kernel
theorem dX12_sum_71 : decode cX12_sum 71 = .ok (.aload_n 0, 1) := by decide +kernel
theorem dX12_sum_72 : decode cX12_sum 72 = .ok (.invokevirtual 122, 3) := by decide +kernel
theorem dX12_sum_75 : decode cX12_sum 75 = .ok (.goto 4, 3) := by decide +kernel
theorem dX12_sum_78 : decode cX12_sum 78 = .ok (.iconst (-1), 1) := by decide +kernel
theorem dX12_sum_79 : decode cX12_sum 79 = .ok (.istore_n 1, 1) := by decide +kernel
theorem dX12_sum_80 : decode cX12_sum 80 = .ok (.goto (-59), 3) := by decide +kernel
theorem dX12_sum_83 : decode cX12_sum 83 = .ok (.return_, 1) := by decide +kernel
theorem dX12_isSign_0 : decode cX12_isSign 0 = .ok (.iload_n 0, 1) := by decide +kernel
theorem dX12_isSign_1 : decode cX12_isSign 1 = .ok (.bipush 61, 2) := by decide +kernel
theorem dX12_isSign_3 : decode cX12_isSign 3 = .ok (.if_icmp .eq 15, 3) := by decide +kernel
theorem dX12_isSign_6 : decode cX12_isSign 6 = .ok (.iload_n 0, 1) := by decide +kernel
theorem dX12_isSign_7 : decode cX12_isSign 7 = .ok (.bipush 60, 2) := by decide +kernel
theorem dX12_isSign_9 : decode cX12_isSign 9 = .ok (.if_icmp .eq 9, 3) := by decide +kernel
theorem dX12_isSign_12 : decode cX12_isSign 12 = .ok (.iload_n 0, 1) := by decide +kernel
theorem dX12_isSign_13 : decode cX12_isSign 13 = .ok (.bipush 62, 2) := by decide +kernel
theorem dX12_isSign_15 : decode cX12_isSign 15 = .ok (.if_icmp .ne 7, 3) := by decide +kernel
theorem dX12_isSign_18 : decode cX12_isSign 18 = .ok (.iconst 1, 1) := by decide +kernel
theorem dX12_isSign_19 : decode cX12_isSign 19 = .ok (.goto 4, 3) := by decide +kernel
theorem dX12_isSign_22 : decode cX12_isSign 22 = .ok (.iconst 0, 1) := by decide +kernel
theorem dX12_isSign_23 : decode cX12_isSign 23 = .ok (.ireturn, 1) := by decide +kernel
theorem dX12_compare_0 : decode cX12_compare 0 = .ok (.aload_n 0, 1) := by decide +kernel
theorem dX12_compare_1 : decode cX12_compare 1 = .ok (.getfield 110, 3) := by decide +kernel
theorem dX12_compare_4 : decode cX12_compare 4 = .ok (.iconst (-1), 1) := by decide +kernel
theorem dX12_compare_5 : decode cX12_compare 5 = .ok (.if_icmp .ne 10, 3) := by decide +kernel
theorem dX12_compare_8 : decode cX12_compare 8 = .ok (.aload_n 0, 1) := by decide +kernel
theorem dX12_compare_9 : decode cX12_compare 9 = .ok (.invokevirtual 122, 3) := by decide +kernel
theorem dX12_compare_12 : decode cX12_compare 12 = .ok (.goto 4, 3) := by decide +kernel
theorem dX12_compare_15 : decode cX12_compare 15 = .ok (.iconst (-1), 1) := by decide +kernel
theorem dX12_compare_16 : decode cX12_compare 16 = .ok (.istore_n 1, 1) := by decide +kernel
theorem dX12_compare_17 : decode cX12_compare 17 = .ok (.iload_n 1, 1) := by decide +kernel
theorem dX12_compare_18 : decode cX12_compare 18 = .ok (.invokestatic 156, 3) := by decide +kernel
theorem dX12_compare_21 : decode cX12_compare 21 = .ok (.ifCond .ne 8, 3) := by decide +kernel
theorem dX12_compare_24 : decode cX12_compare 24 = .ok (.aload_n 0, 1) := by decide +kernel
theorem dX12_compare_25 : decode cX12_compare 25 = .ok (.invokevirtual 119, 3) := by decide +kernel
theorem dX12_compare_28 : decode cX12_compare 28 = .ok (.return_, 1) := by decide +kernel
theorem dX12_compare_29 : decode cX12_compare 29 = .ok (.aload_n 0, 1) := by decide +kernel
theorem dX12_compare_30 : decode cX12_compare 30 = .ok (.dup, 1) := by decide +kernel
theorem dX12_compare_31 : decode cX12_compare 31 = .ok (.getfield 103, 3) := by decide +kernel
theorem dX12_compare_34 : decode cX12_compare 34 = .ok (.iconst 1, 1) := by decide +kernel
theorem dX12_compare_35 : decode cX12_compare 35 = .ok (.iadd, 1) := by decide +kernel
theorem dX12_compare_36 : decode cX12_compare 36 = .ok (.putfield 103, 3) := by decide +kernel
theorem dX12_compare_39 : decode cX12_compare 39 = .ok (.aload_n 0, 1) := by decide +kernel
theorem dX12_compare_40 : decode cX12_compare 40 = .ok (.invokevirtual 143, 3) := by decide +kernel
theorem dX12_compare_43 : decode cX12_compare 43 = .ok (.aload_n 0, 1) := by decide +kernel
theorem dX12_compare_44 : decode cX12_compare 44 = .ok (.iload_n 1, 1) := by decide +kernel
theorem dX12_compare_45 : decode cX12_compare 45 = .ok (.bipush 61, 2) := by decide +kernel
theorem dX12_compare_47 : decode cX12_compare 47 = .ok (.if_icmp .ne 8, 3) := by decide +kernel
theorem dX12_compare_50 : decode cX12_compare 50 = .ok (.bipush 6, 2) := by decide +kernel
theorem dX12_compare_52 : decode cX12_compare 52 = .ok (.goto 16, 3) := by decide +kernel
theorem dX12_compare_55 : decode cX12_compare 55 = .ok (.iload_n 1, 1) := by decide +kernel
theorem dX12_compare_56 : decode cX12_compare 56 = .ok (.bipush 60, 2) := by decide +kernel
theorem dX12_compare_58 : decode cX12_compare 58 = .ok (.if_icmp .ne 8, 3) := by decide +kernel
theorem dX12_compare_61 : decode cX12_compare 61 = .ok (.bipush 7, 2) := by decide +kernel
theorem dX12_compare_63 : decode cX12_compare 63 = .ok (.goto 5, 3) := by decide +kernel
theorem dX12_compare_66 : decode cX12_compare 66 = .ok (.bipush 8, 2) := by decide +kernel
theorem dX12_compare_68 : decode cX12_compare 68 = .ok (.iconst 0, 1) := by decide +kernel
theorem dX12_compare_69 : decode cX12_compare 69 = .ok (.invokevirtual 132, 3) := by decide +kernel
theorem dX12_compare_72 : decode cX12_compare 72 = .ok (.return_, 1) := by decide +kernel
theorem dX12_unit_0 : decode cX12_unit 0 = .ok (.aload_n 0, 1) := by decide +kernel
theorem dX12_unit_1 : decode cX12_unit 1 = .ok (.invokevirtual 122, 3) := by decide +kernel
theorem dX12_unit_4 : decode cX12_unit 4 = .ok (.istore_n 1, 1) := by decide +kernel
theorem dX12_unit_5 : decode cX12_unit 5 = .ok (.iload_n 1, 1) := by decide +kernel
theorem dX12_unit_6 : decode cX12_unit 6 = .ok (.bipush 33, 2) := by decide +kernel
theorem dX12_unit_8 : decode cX12_unit 8 = .ok (.if_icmp .ne 39, 3) := by decide +kernel
theorem dX12_unit_11 : decode cX12_unit 11 = .ok (.aload_n 0, 1) := by decide +kernel
theorem dX12_unit_12 : decode cX12_unit 12 = .ok (.invokevirtual 140, 3) := by decide +kernel
theorem dX12_unit_15 : decode cX12_unit 15 = .ok (.aload_n 0, 1) := by decide +kernel
theorem dX12_unit_16 : decode cX12_unit 16 = .ok (.getfield 110, 3) := by decide +kernel
theorem dX12_unit_19 : decode cX12_unit 19 = .ok (.iconst (-1), 1) := by decide +kernel
theorem dX12_unit_20 : decode cX12_unit 20 = .ok (.if_icmp .ne 74, 3) := by decide +kernel
theorem dX12_unit_23 : decode cX12_unit 23 = .ok (.aload_n 0, 1) := by decide +kernel
theorem dX12_unit_24 : decode cX12_unit 24 = .ok (.invokevirtual 159, 3) := by decide +kernel
theorem dX12_unit_27 : decode cX12_unit 27 = .ok (.aload_n 0, 1) := by decide +kernel
theorem dX12_unit_28 : decode cX12_unit 28 = .ok (.bipush 9, 2) := by decide +kernel
theorem dX12_unit_30 : decode cX12_unit 30 = .ok (.iconst 0, 1) := by decide +kernel
theorem dX12_unit_31 : decode cX12_unit 31 = .ok (.invokevirtual 132, 3) := by decide +kernel
theorem dX12_unit_34 : decode cX12_unit 34 = .ok (.aload_n 0, 1) := by decide +kernel
theorem dX12_unit_35 : decode cX12_unit 35 = .ok (.dup, 1) := by decide +kernel
theorem dX12_unit_36 : decode cX12_unit 36 = .ok (.getfield 116, 3) := by decide +kernel
theorem dX12_unit_39 : decode cX12_unit 39 = .ok (.iconst 1, 1) := by decide +kernel
theorem dX12_unit_40 : decode cX12_unit 40 = .ok (.isub, 1) := by decide +kernel
theorem dX12_unit_41 : decode cX12_unit 41 = .ok (.putfield 116, 3) := by decide +kernel
theorem dX12_unit_44 : decode cX12_unit 44 = .ok (.goto 50, 3) := by decide +kernel
theorem dX12_unit_47 : decode cX12_unit 47 = .ok (.iload_n 1, 1) := by decide +kernel
theorem dX12_unit_48 : decode cX12_unit 48 = .ok (.bipush 40, 2) := by decide +kernel
theorem dX12_unit_50 : decode cX12_unit 50 = .ok (.if_icmp .ne 28, 3) := by decide +kernel
theorem dX12_unit_53 : decode cX12_unit 53 = .ok (.aload_n 0, 1) := by decide +kernel
theorem dX12_unit_54 : decode cX12_unit 54 = .ok (.invokevirtual 140, 3) := by decide +kernel
theorem dX12_unit_57 : decode cX12_unit 57 = .ok (.aload_n 0, 1) := by decide +kernel
theorem dX12_unit_58 : decode cX12_unit 58 = .ok (.getfield 110, 3) := by decide +kernel
theorem dX12_unit_61 : decode cX12_unit 61 = .ok (.iconst (-1), 1) := by decide +kernel
theorem dX12_unit_62 : decode cX12_unit 62 = .ok (.if_icmp .ne 32, 3) := by decide +kernel
theorem dX12_unit_65 : decode cX12_unit 65 = .ok (.aload_n 0, 1) := by decide +kernel
theorem dX12_unit_66 : decode cX12_unit 66 = .ok (.invokevirtual 162, 3) := by decide +kernel
theorem dX12_unit_69 : decode cX12_unit 69 = .ok (.aload_n 0, 1) := by decide +kernel
theorem dX12_unit_70 : decode cX12_unit 70 = .ok (.bipush 41, 2) := by decide +kernel
theorem dX12_unit_72 : decode cX12_unit 72 = .ok (.invokevirtual 146, 3) := by decide +kernel
theorem dX12_unit_75 : decode cX12_unit 75 = .ok (.goto 19, 3) := by decide +kernel
theorem dX12_unit_78 : decode cX12_unit 78 = .ok (.aload_n 0, 1) := by decide +kernel
theorem dX12_unit_79 : decode cX12_unit 79 = .ok (.invokevirtual 143, 3) := by decide +kernel
theorem dX12_unit_82 : decode cX12_unit 82 = .ok (.aload_n 0, 1) := by decide +kernel
theorem dX12_unit_83 : decode cX12_unit 83 = .ok (.getfield 110, 3) := by decide +kernel
theorem dX12_unit_86 : decode cX12_unit 86 = .ok (.iconst (-1), 1) := by decide +kernel
theorem dX12_unit_87 : decode cX12_unit 87 = .ok (.if_icmp .ne 7, 3) := by decide +kernel
theorem dX12_unit_90 : decode cX12_unit 90 = .ok (.aload_n 0, 1) := by decide +kernel
theorem dX12_unit_91 : decode cX12_unit 91 = .ok (.invokevirtual 165, 3) := by decide +kernel
theorem dX12_unit_94 : decode cX12_unit 94 = .ok (.return_, 1) := by decide +kernel
theorem dX12_goOnAnd_0 : decode cX12_goOnAnd 0 = .ok (.aload_n 0, 1) := by decide +kernel
theorem dX12_goOnAnd_1 : decode cX12_goOnAnd 1 = .ok (.getfield 110, 3) := by decide +kernel
theorem dX12_goOnAnd_4 : decode cX12_goOnAnd 4 = .ok (.iconst (-1), 1) := by decide +kernel
theorem dX12_goOnAnd_5 : decode cX12_goOnAnd 5 = .ok (.if_icmp .ne 36, 3) := by decide +kernel
theorem dX12_goOnAnd_8 : decode cX12_goOnAnd 8 = .ok (.aload_n 0, 1) := by decide +kernel
theorem dX12_goOnAnd_9 : decode cX12_goOnAnd 9 = .ok (.invokevirtual 122, 3) := by decide +kernel
theorem dX12_goOnAnd_12 : decode cX12_goOnAnd 12 = .ok (.bipush 38, 2) := by decide +kernel
theorem dX12_goOnAnd_14 : decode cX12_goOnAnd 14 = .ok (.if_icmp .ne 27, 3) := by decide +kernel
theorem dX12_goOnAnd_17 : decode cX12_goOnAnd 17 = .ok (.aload_n 0, 1) := by decide +kernel
theorem dX12_goOnAnd_18 : decode cX12_goOnAnd 18 = .ok (.dup, 1) := by decide +kernel
theorem dX12_goOnAnd_19 : decode cX12_goOnAnd 19 = .ok (.getfield 103, 3) := by decide +kernel
theorem dX12_goOnAnd_22 : decode cX12_goOnAnd 22 = .ok (.iconst 1, 1) := by decide +kernel
theorem dX12_goOnAnd_23 : decode cX12_goOnAnd 23 = .ok (.iadd, 1) := by decide +kernel
theorem dX12_goOnAnd_24 : decode cX12_goOnAnd 24 = .ok (.putfield 103, 3) := by decide +kernel
theorem dX12_goOnAnd_27 : decode cX12_goOnAnd 27 = .ok (.aload_n 0, 1) := by decide +kernel
theorem dX12_goOnAnd_28 : decode cX12_goOnAnd 28 = .ok (.invokevirtual 159, 3) := by decide +kernel
theorem dX12_goOnAnd_31 : decode cX12_goOnAnd 31 = .ok (.aload_n 0, 1) := by decide +kernel
theorem dX12_goOnAnd_32 : decode cX12_goOnAnd 32 = .ok (.bipush 10, 2) := by decide +kernel
theorem dX12_goOnAnd_34 : decode cX12_goOnAnd 34 = .ok (.iconst 0, 1) := by decide +kernel
theorem dX12_goOnAnd_35 : decode cX12_goOnAnd 35 = .ok (.invokevirtual 132, 3) := by decide +kernel
theorem dX12_goOnAnd_38 : decode cX12_goOnAnd 38 = .ok (.goto (-38), 3) := by decide +kernel
theorem dX12_goOnAnd_41 : decode cX12_goOnAnd 41 = .ok (.return_, 1) := by decide +kernel
theorem dX12_goOnOr_0 : decode cX12_goOnOr 0 = .ok (.aload_n 0, 1) := by decide +kernel
theorem dX12_goOnOr_1 : decode cX12_goOnOr 1 = .ok (.getfield 110, 3) := by decide +kernel
theorem dX12_goOnOr_4 : decode cX12_goOnOr 4 = .ok (.iconst (-1), 1) := by decide +kernel
theorem dX12_goOnOr_5 : decode cX12_goOnOr 5 = .ok (.if_icmp .ne 40, 3) := by decide +kernel
theorem dX12_goOnOr_8 : decode cX12_goOnOr 8 = .ok (.aload_n 0, 1) := by decide +kernel
theorem dX12_goOnOr_9 : decode cX12_goOnOr 9 = .ok (.invokevirtual 122, 3) := by decide +kernel
theorem dX12_goOnOr_12 : decode cX12_goOnOr 12 = .ok (.bipush 124, 2) := by decide +kernel
theorem dX12_goOnOr_14 : decode cX12_goOnOr 14 = .ok (.if_icmp .ne 31, 3) := by decide +kernel
theorem dX12_goOnOr_17 : decode cX12_goOnOr 17 = .ok (.aload_n 0, 1) := by decide +kernel
theorem dX12_goOnOr_18 : decode cX12_goOnOr 18 = .ok (.dup, 1) := by decide +kernel
theorem dX12_goOnOr_19 : decode cX12_goOnOr 19 = .ok (.getfield 103, 3) := by decide +kernel
theorem dX12_goOnOr_22 : decode cX12_goOnOr 22 = .ok (.iconst 1, 1) := by decide +kernel
theorem dX12_goOnOr_23 : decode cX12_goOnOr 23 = .ok (.iadd, 1) := by decide +kernel
theorem dX12_goOnOr_24 : decode cX12_goOnOr 24 = .ok (.putfield 103, 3) := by decide +kernel
theorem dX12_goOnOr_27 : decode cX12_goOnOr 27 = .ok (.aload_n 0, 1) := by decide +kernel
theorem dX12_goOnOr_28 : decode cX12_goOnOr 28 = .ok (.invokevirtual 159, 3) := by decide +kernel
theorem dX12_goOnOr_31 : decode cX12_goOnOr 31 = .ok (.aload_n 0, 1) := by decide +kernel
theorem dX12_goOnOr_32 : decode cX12_goOnOr 32 = .ok (.invokevirtual 168, 3) := by decide +kernel
theorem dX12_goOnOr_35 : decode cX12_goOnOr 35 = .ok (.aload_n 0, 1) := by decide +kernel
theorem dX12_goOnOr_36 : decode cX12_goOnOr 36 = .ok (.bipush 11, 2) := by decide +kernel
theorem dX12_goOnOr_38 : decode cX12_goOnOr 38 = .ok (.iconst 0, 1) := by decide +kernel
theorem dX12_goOnOr_39 : decode cX12_goOnOr 39 = .ok (.invokevirtual 132, 3) := by decide +kernel
theorem dX12_goOnOr_42 : decode cX12_goOnOr 42 = .ok (.goto (-42), 3) := by decide +kernel
theorem dX12_goOnOr_45 : decode cX12_goOnOr 45 = .ok (.return_, 1) := by decide +kernel
theorem dX12_condition_0 : decode cX12_condition 0 = .ok (.aload_n 0, 1) := by decide +kernel
theorem dX12_condition_1 : decode cX12_condition 1 = .ok (.invokevirtual 159, 3) := by decide +kernel
theorem dX12_condition_4 : decode cX12_condition 4 = .ok (.aload_n 0, 1) := by decide +kernel
theorem dX12_condition_5 : decode cX12_condition 5 = .ok (.invokevirtual 168, 3) := by decide +kernel
theorem dX12_condition_8 : decode cX12_condition 8 = .ok (.aload_n 0, 1) := by decide +kernel
theorem dX12_condition_9 : decode cX12_condition 9 = .ok (.invokevirtual 171, 3) := by decide +kernel
theorem dX12_condition_12 : decode cX12_condition 12 = .ok (.return_, 1) := by decide +kernel
theorem dX12_clause_0 : decode cX12_clause 0 = .ok (.sipush 140, 3) := by decide +kernel
theorem dX12_clause_3 : decode cX12_clause 3 = .ok (.aload_n 0, 1) := by decide +kernel
theorem dX12_clause_4 : decode cX12_clause 4 = .ok (.getfield 113, 3) := by decide +kernel
theorem dX12_clause_7 : decode cX12_clause 7 = .ok (.imul, 1) := by decide +kernel
theorem dX12_clause_8 : decode cX12_clause 8 = .ok (.aload_n 0, 1) := by decide +kernel
theorem dX12_clause_9 : decode cX12_clause 9 = .ok (.getfield 22, 3) := by decide +kernel
theorem dX12_clause_12 : decode cX12_clause 12 = .ok (.aload_n 0, 1) := by decide +kernel
theorem dX12_clause_13 : decode cX12_clause 13 = .ok (.getfield 113, 3) := by decide +kernel
theorem dX12_clause_16 : decode cX12_clause 16 = .ok (.iaload, 1) := by decide +kernel
theorem dX12_clause_17 : decode cX12_clause 17 = .ok (.iadd, 1) := by decide +kernel
theorem dX12_clause_18 : decode cX12_clause 18 = .ok (.istore_n 1, 1) := by decide +kernel
theorem dX12_clause_19 : decode cX12_clause 19 = .ok (.aload_n 0, 1) := by decide +kernel
theorem dX12_clause_20 : decode cX12_clause 20 = .ok (.getfield 110, 3) := by decide +kernel
theorem dX12_clause_23 : decode cX12_clause 23 = .ok (.iconst (-1), 1) := by decide +kernel
theorem dX12_clause_24 : decode cX12_clause 24 = .ok (.if_icmp .ne 16, 3) := by decide +kernel
theorem dX12_clause_27 : decode cX12_clause 27 = .ok (.aload_n 0, 1) := by decide +kernel
theorem dX12_clause_28 : decode cX12_clause 28 = .ok (.invokevirtual 122, 3) := by decide +kernel
theorem dX12_clause_31 : decode cX12_clause 31 = .ok (.bipush 121, 2) := by decide +kernel
theorem dX12_clause_33 : decode cX12_clause 33 = .ok (.if_icmp .eq 7, 3) := by decide +kernel
theorem dX12_clause_36 : decode cX12_clause 36 = .ok (.aload_n 0, 1) := by decide +kernel
theorem dX12_clause_37 : decode cX12_clause 37 = .ok (.invokevirtual 119, 3) := by decide +kernel
theorem dX12_clause_40 : decode cX12_clause 40 = .ok (.aload_n 0, 1) := by decide +kernel
theorem dX12_clause_41 : decode cX12_clause 41 = .ok (.dup, 1) := by decide +kernel
theorem dX12_clause_42 : decode cX12_clause 42 = .ok (.getfield 103, 3) := by decide +kernel
theorem dX12_clause_45 : decode cX12_clause 45 = .ok (.iconst 1, 1) := by decide +kernel
theorem dX12_clause_46 : decode cX12_clause 46 = .ok (.iadd, 1) := by decide +kernel
theorem dX12_clause_47 : decode cX12_clause 47 = .ok (.putfield 103, 3) := by decide +kernel
theorem dX12_clause_50 : decode cX12_clause 50 = .ok (.aload_n 0, 1) := by decide +kernel
theorem dX12_clause_51 : decode cX12_clause 51 = .ok (.getfield 110, 3) := by decide +kernel
theorem dX12_clause_54 : decode cX12_clause 54 = .ok (.iconst (-1), 1) := by decide +kernel
theorem dX12_clause_55 : decode cX12_clause 55 = .ok (.if_icmp .ne 16, 3) := by decide +kernel
theorem dX12_clause_58 : decode cX12_clause 58 = .ok (.aload_n 0, 1) := by decide +kernel
theorem dX12_clause_59 : decode cX12_clause 59 = .ok (.invokevirtual 122, 3) := by decide +kernel
theorem dX12_clause_62 : decode cX12_clause 62 = .ok (.bipush 58, 2) := by decide +kernel
theorem dX12_clause_64 : decode cX12_clause 64 = .ok (.if_icmp .eq 7, 3) := by decide +kernel
theorem dX12_clause_67 : decode cX12_clause 67 = .ok (.aload_n 0, 1) := by decide +kernel
theorem dX12_clause_68 : decode cX12_clause 68 = .ok (.invokevirtual 119, 3) := by decide +kernel
theorem dX12_clause_71 : decode cX12_clause 71 = .ok (.aload_n 0, 1) := by decide +kernel
theorem dX12_clause_72 : decode cX12_clause 72 = .ok (.dup, 1) := by decide +kernel
theorem dX12_clause_73 : decode cX12_clause 73 = .ok (.getfield 103, 3) := by decide +kernel
theorem dX12_clause_76 : decode cX12_clause 76 = .ok (.iconst 1, 1) := by decide +kernel
theorem dX12_clause_77 : decode cX12_clause 77 = .ok (.iadd, 1) := by decide +kernel
theorem dX12_clause_78 : decode cX12_clause 78 = .ok (.putfield 103, 3) := by decide +kernel
theorem dX12_clause_81 : decode cX12_clause 81 = .ok (.aload_n 0, 1) := by decide +kernel
theorem dX12_clause_82 : decode cX12_clause 82 = .ok (.getfield 110, 3) := by decide +kernel
theorem dX12_clause_85 : decode cX12_clause 85 = .ok (.iconst (-1), 1) := by decide +kernel
theorem dX12_clause_86 : decode cX12_clause 86 = .ok (.if_icmp .eq 4, 3) := by decide +kernel
theorem dX12_clause_89 : decode cX12_clause 89 = .ok (.return_, 1) := by decide +kernel
theorem dX12_clause_90 : decode cX12_clause 90 = .ok (.aload_n 0, 1) := by decide +kernel
theorem dX12_clause_91 : decode cX12_clause 91 = .ok (.getfield 25, 3) := by decide +kernel
theorem dX12_clause_94 : decode cX12_clause 94 = .ok (.iload_n 1, 1) := by decide +kernel
theorem dX12_clause_95 : decode cX12_clause 95 = .ok (.aload_n 0, 1) := by decide +kernel
theorem dX12_clause_96 : decode cX12_clause 96 = .ok (.getfield 19, 3) := by decide +kernel
theorem dX12_clause_99 : decode cX12_clause 99 = .ok (.aload_n 0, 1) := by decide +kernel
theorem dX12_clause_100 : decode cX12_clause 100 = .ok (.getfield 113, 3) := by decide +kernel
theorem dX12_clause_103 : decode cX12_clause 103 = .ok (.iaload, 1) := by decide +kernel
theorem dX12_clause_104 : decode cX12_clause 104 = .ok (.iastore, 1) := by decide +kernel
theorem dX12_clause_105 : decode cX12_clause 105 = .ok (.aload_n 0, 1) := by decide +kernel
theorem dX12_clause_106 : decode cX12_clause 106 = .ok (.invokevirtual 122, 3) := by decide +kernel
theorem dX12_clause_109 : decode cX12_clause 109 = .ok (.bipush 33, 2) := by decide +kernel
theorem dX12_clause_111 : decode cX12_clause 111 = .ok (.if_icmp .eq 12, 3) := by decide +kernel
theorem dX12_clause_114 : decode cX12_clause 114 = .ok (.aload_n 0, 1) := by decide +kernel
theorem dX12_clause_115 : decode cX12_clause 115 = .ok (.invokevirtual 122, 3) := by decide +kernel
theorem dX12_clause_118 : decode cX12_clause 118 = .ok (.bipush 40, 2) := by decide +kernel
theorem dX12_clause_120 : decode cX12_clause 120 = .ok (.if_icmp .ne 7, 3) := by decide +kernel
theorem dX12_clause_123 : decode cX12_clause 123 = .ok (.iconst 1, 1) := by decide +kernel
theorem dX12_clause_124 : decode cX12_clause 124 = .ok (.goto 4, 3) := by decide +kernel
theorem dX12_clause_127 : decode cX12_clause 127 = .ok (.iconst 0, 1) := by decide +kernel
theorem dX12_clause_128 : decode cX12_clause 128 = .ok (.istore_n 2, 1) := by decide +kernel
theorem dX12_clause_129 : decode cX12_clause 129 = .ok (.iload_n 2, 1) := by decide +kernel
theorem dX12_clause_130 : decode cX12_clause 130 = .ok (.ifCond .eq 10, 3) := by decide +kernel
theorem dX12_clause_133 : decode cX12_clause 133 = .ok (.aload_n 0, 1) := by decide +kernel
theorem dX12_clause_134 : decode cX12_clause 134 = .ok (.invokevirtual 162, 3) := by decide +kernel
theorem dX12_clause_137 : decode cX12_clause 137 = .ok (.goto 47, 3) := by decide +kernel
theorem dX12_clause_140 : decode cX12_clause 140 = .ok (.aload_n 0, 1) := by decide +kernel
theorem dX12_clause_141 : decode cX12_clause 141 = .ok (.invokevirtual 143, 3) := by decide +kernel
theorem dX12_clause_144 : decode cX12_clause 144 = .ok (.aload_n 0, 1) := by decide +kernel
theorem dX12_clause_145 : decode cX12_clause 145 = .ok (.getfield 110, 3) := by decide +kernel
theorem dX12_clause_148 : decode cX12_clause 148 = .ok (.iconst (-1), 1) := by decide +kernel
theorem dX12_clause_149 : decode cX12_clause 149 = .ok (.if_icmp .ne 17, 3) := by decide +kernel
theorem dX12_clause_152 : decode cX12_clause 152 = .ok (.aload_n 0, 1) := by decide +kernel
theorem dX12_clause_153 : decode cX12_clause 153 = .ok (.invokevirtual 122, 3) := by decide +kernel
theorem dX12_clause_156 : decode cX12_clause 156 = .ok (.invokestatic 156, 3) := by decide +kernel
theorem dX12_clause_159 : decode cX12_clause 159 = .ok (.ifCond .eq 7, 3) := by decide +kernel
theorem dX12_clause_162 : decode cX12_clause 162 = .ok (.iconst 1, 1) := by decide +kernel
theorem dX12_clause_163 : decode cX12_clause 163 = .ok (.goto 4, 3) := by decide +kernel
theorem dX12_clause_166 : decode cX12_clause 166 = .ok (.iconst 0, 1) := by decide +kernel
theorem dX12_clause_167 : decode cX12_clause 167 = .ok (.istore_n 2, 1) := by decide +kernel
theorem dX12_clause_168 : decode cX12_clause 168 = .ok (.iload_n 2, 1) := by decide +kernel
theorem dX12_clause_169 : decode cX12_clause 169 = .ok (.ifCond .eq 15, 3) := by decide +kernel
theorem dX12_clause_172 : decode cX12_clause 172 = .ok (.aload_n 0, 1) := by decide +kernel
theorem dX12_clause_173 : decode cX12_clause 173 = .ok (.invokevirtual 165, 3) := by decide +kernel
theorem dX12_clause_176 : decode cX12_clause 176 = .ok (.aload_n 0, 1) := by decide +kernel
theorem dX12_clause_177 : decode cX12_clause 177 = .ok (.invokevirtual 168, 3) := by decide +kernel
theorem dX12_clause_180 : decode cX12_clause 180 = .ok (.aload_n 0, 1) := by decide +kernel
theorem dX12_clause_181 : decode cX12_clause 181 = .ok (.invokevirtual 171, 3) := by decide +kernel
theorem dX12_clause_184 : decode cX12_clause 184 = .ok (.aload_n 0, 1) := by decide +kernel
theorem dX12_clause_185 : decode cX12_clause 185 = .ok (.getfield 28, 3) := by decide +kernel
theorem dX12_clause_188 : decode cX12_clause 188 = .ok (.iload_n 1, 1) := by decide +kernel
theorem dX12_clause_189 : decode cX12_clause 189 = .ok (.aload_n 0, 1) := by decide +kernel
theorem dX12_clause_190 : decode cX12_clause 190 = .ok (.getfield 25, 3) := by decide +kernel
theorem dX12_clause_193 : decode cX12_clause 193 = .ok (.iload_n 1, 1) := by decide +kernel
theorem dX12_clause_194 : decode cX12_clause 194 = .ok (.iaload, 1) := by decide +kernel
theorem dX12_clause_195 : decode cX12_clause 195 = .ok (.iastore, 1) := by decide +kernel
theorem dX12_clause_196 : decode cX12_clause 196 = .ok (.iload_n 2, 1) := by decide +kernel
theorem dX12_clause_197 : decode cX12_clause 197 = .ok (.ifCond .eq 54, 3) := by decide +kernel
theorem dX12_clause_200 : decode cX12_clause 200 = .ok (.aload_n 0, 1) := by decide +kernel
theorem dX12_clause_201 : decode cX12_clause 201 = .ok (.getfield 110, 3) := by decide +kernel
theorem dX12_clause_204 : decode cX12_clause 204 = .ok (.iconst (-1), 1) := by decide +kernel
theorem dX12_clause_205 : decode cX12_clause 205 = .ok (.if_icmp .ne 46, 3) := by decide +kernel
theorem dX12_clause_208 : decode cX12_clause 208 = .ok (.aload_n 0, 1) := by decide +kernel
theorem dX12_clause_209 : decode cX12_clause 209 = .ok (.invokevirtual 122, 3) := by decide +kernel
theorem dX12_clause_212 : decode cX12_clause 212 = .ok (.bipush 63, 2) := by decide +kernel
theorem dX12_clause_214 : decode cX12_clause 214 = .ok (.if_icmp .eq 8, 3) := by decide +kernel
theorem dX12_clause_217 : decode cX12_clause 217 = .ok (.aload_n 0, 1) := by decide +kernel
theorem dX12_clause_218 : decode cX12_clause 218 = .ok (.invokevirtual 119, 3) := by decide +kernel
theorem dX12_clause_221 : decode cX12_clause 221 = .ok (.return_, 1) := by decide +kernel
theorem dX12_clause_222 : decode cX12_clause 222 = .ok (.aload_n 0, 1) := by decide +kernel
theorem dX12_clause_223 : decode cX12_clause 223 = .ok (.dup, 1) := by decide +kernel
theorem dX12_clause_224 : decode cX12_clause 224 = .ok (.getfield 103, 3) := by decide +kernel
theorem dX12_clause_227 : decode cX12_clause 227 = .ok (.iconst 1, 1) := by decide +kernel
theorem dX12_clause_228 : decode cX12_clause 228 = .ok (.iadd, 1) := by decide +kernel
theorem dX12_clause_229 : decode cX12_clause 229 = .ok (.putfield 103, 3) := by decide +kernel
theorem dX12_clause_232 : decode cX12_clause 232 = .ok (.aload_n 0, 1) := by decide +kernel
theorem dX12_clause_233 : decode cX12_clause 233 = .ok (.getfield 28, 3) := by decide +kernel
theorem dX12_clause_236 : decode cX12_clause 236 = .ok (.iload_n 1, 1) := by decide +kernel
theorem dX12_clause_237 : decode cX12_clause 237 = .ok (.aload_n 0, 1) := by decide +kernel
theorem dX12_clause_238 : decode cX12_clause 238 = .ok (.getfield 19, 3) := by decide +kernel
theorem dX12_clause_241 : decode cX12_clause 241 = .ok (.aload_n 0, 1) := by decide +kernel
theorem dX12_clause_242 : decode cX12_clause 242 = .ok (.getfield 113, 3) := by decide +kernel
theorem dX12_clause_245 : decode cX12_clause 245 = .ok (.iaload, 1) := by decide +kernel
theorem dX12_clause_246 : decode cX12_clause 246 = .ok (.iastore, 1) := by decide +kernel
theorem dX12_clause_247 : decode cX12_clause 247 = .ok (.aload_n 0, 1) := by decide +kernel
theorem dX12_clause_248 : decode cX12_clause 248 = .ok (.invokevirtual 143, 3) := by decide +kernel
theorem dX12_clause_251 : decode cX12_clause 251 = .ok (.aload_n 0, 1) := by decide +kernel
theorem dX12_clause_252 : decode cX12_clause 252 = .ok (.getfield 31, 3) := by decide +kernel
theorem dX12_clause_255 : decode cX12_clause 255 = .ok (.iload_n 1, 1) := by decide +kernel
theorem dX12_clause_256 : decode cX12_clause 256 = .ok (.aload_n 0, 1) := by decide +kernel
theorem dX12_clause_257 : decode cX12_clause 257 = .ok (.getfield 19, 3) := by decide +kernel
theorem dX12_clause_260 : decode cX12_clause 260 = .ok (.aload_n 0, 1) := by decide +kernel
theorem dX12_clause_261 : decode cX12_clause 261 = .ok (.getfield 113, 3) := by decide +kernel
theorem dX12_clause_264 : decode cX12_clause 264 = .ok (.iaload, 1) := by decide +kernel
theorem dX12_clause_265 : decode cX12_clause 265 = .ok (.iastore, 1) := by decide +kernel
theorem dX12_clause_266 : decode cX12_clause 266 = .ok (.aload_n 0, 1) := by decide +kernel
theorem dX12_clause_267 : decode cX12_clause 267 = .ok (.getfield 22, 3) := by decide +kernel
theorem dX12_clause_270 : decode cX12_clause 270 = .ok (.aload_n 0, 1) := by decide +kernel
theorem dX12_clause_271 : decode cX12_clause 271 = .ok (.getfield 113, 3) := by decide +kernel
theorem dX12_clause_274 : decode cX12_clause 274 = .ok (.dup2, 1) := by decide +kernel
theorem dX12_clause_275 : decode cX12_clause 275 = .ok (.iaload, 1) := by decide +kernel
theorem dX12_clause_276 : decode cX12_clause 276 = .ok (.iconst 1, 1) := by decide +kernel
theorem dX12_clause_277 : decode cX12_clause 277 = .ok (.iadd, 1) := by decide +kernel
theorem dX12_clause_278 : decode cX12_clause 278 = .ok (.iastore, 1) := by decide +kernel
theorem dX12_clause_279 : decode cX12_clause 279 = .ok (.return_, 1) := by decide +kernel
theorem dX12_open_0 : decode cX12_open 0 = .ok (.aload_n 0, 1) := by decide +kernel
theorem dX12_open_1 : decode cX12_open 1 = .ok (.iload_n 1, 1) := by decide +kernel
theorem dX12_open_2 : decode cX12_open 2 = .ok (.putfield 113, 3) := by decide +kernel
theorem dX12_open_5 : decode cX12_open 5 = .ok (.aload_n 0, 1) := by decide +kernel
theorem dX12_open_6 : decode cX12_open 6 = .ok (.iconst 0, 1) := by decide +kernel
theorem dX12_open_7 : decode cX12_open 7 = .ok (.putfield 103, 3) := by decide +kernel
theorem dX12_open_10 : decode cX12_open 10 = .ok (.aload_n 0, 1) := by decide +kernel
theorem dX12_open_11 : decode cX12_open 11 = .ok (.iconst (-1), 1) := by decide +kernel
theorem dX12_open_12 : decode cX12_open 12 = .ok (.putfield 110, 3) := by decide +kernel
theorem dX12_open_15 : decode cX12_open 15 = .ok (.aload_n 0, 1) := by decide +kernel
theorem dX12_open_16 : decode cX12_open 16 = .ok (.iconst 0, 1) := by decide +kernel
theorem dX12_open_17 : decode cX12_open 17 = .ok (.putfield 116, 3) := by decide +kernel
theorem dX12_open_20 : decode cX12_open 20 = .ok (.aload_n 0, 1) := by decide +kernel
theorem dX12_open_21 : decode cX12_open 21 = .ok (.getfield 19, 3) := by decide +kernel
theorem dX12_open_24 : decode cX12_open 24 = .ok (.iload_n 1, 1) := by decide +kernel
theorem dX12_open_25 : decode cX12_open 25 = .ok (.iconst 0, 1) := by decide +kernel
theorem dX12_open_26 : decode cX12_open 26 = .ok (.iastore, 1) := by decide +kernel
theorem dX12_open_27 : decode cX12_open 27 = .ok (.aload_n 0, 1) := by decide +kernel
theorem dX12_open_28 : decode cX12_open 28 = .ok (.getfield 22, 3) := by decide +kernel
theorem dX12_open_31 : decode cX12_open 31 = .ok (.iload_n 1, 1) := by decide +kernel
theorem dX12_open_32 : decode cX12_open 32 = .ok (.iconst 0, 1) := by decide +kernel
theorem dX12_open_33 : decode cX12_open 33 = .ok (.iastore, 1) := by decide +kernel
theorem dX12_open_34 : decode cX12_open 34 = .ok (.return_, 1) := by decide +kernel
theorem dX12_atEnd_0 : decode cX12_atEnd 0 = .ok (.aload_n 0, 1) := by decide +kernel
theorem dX12_atEnd_1 : decode cX12_atEnd 1 = .ok (.getfield 110, 3) := by decide +kernel
theorem dX12_atEnd_4 : decode cX12_atEnd 4 = .ok (.iconst (-1), 1) := by decide +kernel
theorem dX12_atEnd_5 : decode cX12_atEnd 5 = .ok (.if_icmp .ne 15, 3) := by decide +kernel
theorem dX12_atEnd_8 : decode cX12_atEnd 8 = .ok (.aload_n 0, 1) := by decide +kernel
theorem dX12_atEnd_9 : decode cX12_atEnd 9 = .ok (.invokevirtual 122, 3) := by decide +kernel
theorem dX12_atEnd_12 : decode cX12_atEnd 12 = .ok (.iconst (-1), 1) := by decide +kernel
theorem dX12_atEnd_13 : decode cX12_atEnd 13 = .ok (.if_icmp .eq 7, 3) := by decide +kernel
theorem dX12_atEnd_16 : decode cX12_atEnd 16 = .ok (.aload_n 0, 1) := by decide +kernel
theorem dX12_atEnd_17 : decode cX12_atEnd 17 = .ok (.invokevirtual 119, 3) := by decide +kernel
theorem dX12_atEnd_20 : decode cX12_atEnd 20 = .ok (.aload_n 0, 1) := by decide +kernel
theorem dX12_atEnd_21 : decode cX12_atEnd 21 = .ok (.getfield 110, 3) := by decide +kernel
theorem dX12_atEnd_24 : decode cX12_atEnd 24 = .ok (.ireturn, 1) := by decide +kernel
theorem dX12_readLaw_0 : decode cX12_readLaw 0 = .ok (.aload_n 0, 1) := by decide +kernel
theorem dX12_readLaw_1 : decode cX12_readLaw 1 = .ok (.iload_n 1, 1) := by decide +kernel
theorem dX12_readLaw_2 : decode cX12_readLaw 2 = .ok (.invokevirtual 174, 3) := by decide +kernel
theorem dX12_readLaw_5 : decode cX12_readLaw 5 = .ok (.aload_n 0, 1) := by decide +kernel
theorem dX12_readLaw_6 : decode cX12_readLaw 6 = .ok (.invokevirtual 177, 3) := by decide +kernel
theorem dX12_readLaw_9 : decode cX12_readLaw 9 = .ok (.aload_n 0, 1) := by decide +kernel
theorem dX12_readLaw_10 : decode cX12_readLaw 10 = .ok (.getfield 110, 3) := by decide +kernel
theorem dX12_readLaw_13 : decode cX12_readLaw 13 = .ok (.iconst (-1), 1) := by decide +kernel
theorem dX12_readLaw_14 : decode cX12_readLaw 14 = .ok (.if_icmp .ne 29, 3) := by decide +kernel
theorem dX12_readLaw_17 : decode cX12_readLaw 17 = .ok (.aload_n 0, 1) := by decide +kernel
theorem dX12_readLaw_18 : decode cX12_readLaw 18 = .ok (.invokevirtual 122, 3) := by decide +kernel
theorem dX12_readLaw_21 : decode cX12_readLaw 21 = .ok (.bipush 59, 2) := by decide +kernel
theorem dX12_readLaw_23 : decode cX12_readLaw 23 = .ok (.if_icmp .ne 20, 3) := by decide +kernel
theorem dX12_readLaw_26 : decode cX12_readLaw 26 = .ok (.aload_n 0, 1) := by decide +kernel
theorem dX12_readLaw_27 : decode cX12_readLaw 27 = .ok (.dup, 1) := by decide +kernel
theorem dX12_readLaw_28 : decode cX12_readLaw 28 = .ok (.getfield 103, 3) := by decide +kernel
theorem dX12_readLaw_31 : decode cX12_readLaw 31 = .ok (.iconst 1, 1) := by decide +kernel
theorem dX12_readLaw_32 : decode cX12_readLaw 32 = .ok (.iadd, 1) := by decide +kernel
theorem dX12_readLaw_33 : decode cX12_readLaw 33 = .ok (.putfield 103, 3) := by decide +kernel
theorem dX12_readLaw_36 : decode cX12_readLaw 36 = .ok (.aload_n 0, 1) := by decide +kernel
theorem dX12_readLaw_37 : decode cX12_readLaw 37 = .ok (.invokevirtual 177, 3) := by decide +kernel
theorem dX12_readLaw_40 : decode cX12_readLaw 40 = .ok (.goto (-31), 3) := by decide +kernel
theorem dX12_readLaw_43 : decode cX12_readLaw 43 = .ok (.aload_n 0, 1) := by decide +kernel
theorem dX12_readLaw_44 : decode cX12_readLaw 44 = .ok (.invokevirtual 180, 3) := by decide +kernel
theorem dX12_readLaw_47 : decode cX12_readLaw 47 = .ok (.ireturn, 1) := by decide +kernel
theorem dX12_bounded_0 : decode cX12_bounded 0 = .ok (.ldc2_w 183, 3) := by decide +kernel
theorem dX12_bounded_3 : decode cX12_bounded 3 = .ok (.ldc2_w 185, 3) := by decide +kernel
theorem dX12_bounded_6 : decode cX12_bounded 6 = .ok (.lload_n 0, 1) := by decide +kernel
theorem dX12_bounded_7 : decode cX12_bounded 7 = .ok (.invokestatic 187, 3) := by decide +kernel
theorem dX12_bounded_10 : decode cX12_bounded 10 = .ok (.invokestatic 193, 3) := by decide +kernel
theorem dX12_bounded_13 : decode cX12_bounded 13 = .ok (.l2i, 1) := by decide +kernel
theorem dX12_bounded_14 : decode cX12_bounded 14 = .ok (.ireturn, 1) := by decide +kernel
theorem dX12_worked_0 : decode cX12_worked 0 = .ok (.iload_n 0, 1) := by decide +kernel
theorem dX12_worked_1 : decode cX12_worked 1 = .ok (.tableswitch 143 2 10 #[51, 58, 65, 72, 89, 101, 113, 143, 125], 51) := by decide +kernel
theorem dX12_worked_52 : decode cX12_worked 52 = .ok (.lload_n 1, 1) := by decide +kernel
theorem dX12_worked_53 : decode cX12_worked 53 = .ok (.lload_n 3, 1) := by decide +kernel
theorem dX12_worked_54 : decode cX12_worked 54 = .ok (.ladd, 1) := by decide +kernel
theorem dX12_worked_55 : decode cX12_worked 55 = .ok (.invokestatic 196, 3) := by decide +kernel
theorem dX12_worked_58 : decode cX12_worked 58 = .ok (.ireturn, 1) := by decide +kernel
theorem dX12_worked_59 : decode cX12_worked 59 = .ok (.lload_n 1, 1) := by decide +kernel
theorem dX12_worked_60 : decode cX12_worked 60 = .ok (.lload_n 3, 1) := by decide +kernel
theorem dX12_worked_61 : decode cX12_worked 61 = .ok (.lsub, 1) := by decide +kernel
theorem dX12_worked_62 : decode cX12_worked 62 = .ok (.invokestatic 196, 3) := by decide +kernel
theorem dX12_worked_65 : decode cX12_worked 65 = .ok (.ireturn, 1) := by decide +kernel
theorem dX12_worked_66 : decode cX12_worked 66 = .ok (.lload_n 1, 1) := by decide +kernel
theorem dX12_worked_67 : decode cX12_worked 67 = .ok (.lload_n 3, 1) := by decide +kernel
theorem dX12_worked_68 : decode cX12_worked 68 = .ok (.lmul, 1) := by decide +kernel
theorem dX12_worked_69 : decode cX12_worked 69 = .ok (.invokestatic 196, 3) := by decide +kernel
theorem dX12_worked_72 : decode cX12_worked 72 = .ok (.ireturn, 1) := by decide +kernel
theorem dX12_worked_73 : decode cX12_worked 73 = .ok (.lload_n 3, 1) := by decide +kernel
theorem dX12_worked_74 : decode cX12_worked 74 = .ok (.lconst 0, 1) := by decide +kernel
theorem dX12_worked_75 : decode cX12_worked 75 = .ok (.lcmp, 1) := by decide +kernel
theorem dX12_worked_76 : decode cX12_worked 76 = .ok (.ifCond .ne 7, 3) := by decide +kernel
theorem dX12_worked_79 : decode cX12_worked 79 = .ok (.iconst 0, 1) := by decide +kernel
theorem dX12_worked_80 : decode cX12_worked 80 = .ok (.goto 9, 3) := by decide +kernel
theorem dX12_worked_83 : decode cX12_worked 83 = .ok (.lload_n 1, 1) := by decide +kernel
theorem dX12_worked_84 : decode cX12_worked 84 = .ok (.lload_n 3, 1) := by decide +kernel
theorem dX12_worked_85 : decode cX12_worked 85 = .ok (.ldiv, 1) := by decide +kernel
theorem dX12_worked_86 : decode cX12_worked 86 = .ok (.invokestatic 196, 3) := by decide +kernel
theorem dX12_worked_89 : decode cX12_worked 89 = .ok (.ireturn, 1) := by decide +kernel
theorem dX12_worked_90 : decode cX12_worked 90 = .ok (.lload_n 1, 1) := by decide +kernel
theorem dX12_worked_91 : decode cX12_worked 91 = .ok (.lload_n 3, 1) := by decide +kernel
theorem dX12_worked_92 : decode cX12_worked 92 = .ok (.lcmp, 1) := by decide +kernel
theorem dX12_worked_93 : decode cX12_worked 93 = .ok (.ifCond .ne 7, 3) := by decide +kernel
theorem dX12_worked_96 : decode cX12_worked 96 = .ok (.iconst 1, 1) := by decide +kernel
theorem dX12_worked_97 : decode cX12_worked 97 = .ok (.goto 4, 3) := by decide +kernel
theorem dX12_worked_100 : decode cX12_worked 100 = .ok (.iconst 0, 1) := by decide +kernel
theorem dX12_worked_101 : decode cX12_worked 101 = .ok (.ireturn, 1) := by decide +kernel
theorem dX12_worked_102 : decode cX12_worked 102 = .ok (.lload_n 1, 1) := by decide +kernel
theorem dX12_worked_103 : decode cX12_worked 103 = .ok (.lload_n 3, 1) := by decide +kernel
theorem dX12_worked_104 : decode cX12_worked 104 = .ok (.lcmp, 1) := by decide +kernel
theorem dX12_worked_105 : decode cX12_worked 105 = .ok (.ifCond .ge 7, 3) := by decide +kernel
theorem dX12_worked_108 : decode cX12_worked 108 = .ok (.iconst 1, 1) := by decide +kernel
theorem dX12_worked_109 : decode cX12_worked 109 = .ok (.goto 4, 3) := by decide +kernel
theorem dX12_worked_112 : decode cX12_worked 112 = .ok (.iconst 0, 1) := by decide +kernel
theorem dX12_worked_113 : decode cX12_worked 113 = .ok (.ireturn, 1) := by decide +kernel
theorem dX12_worked_114 : decode cX12_worked 114 = .ok (.lload_n 1, 1) := by decide +kernel
theorem dX12_worked_115 : decode cX12_worked 115 = .ok (.lload_n 3, 1) := by decide +kernel
theorem dX12_worked_116 : decode cX12_worked 116 = .ok (.lcmp, 1) := by decide +kernel
theorem dX12_worked_117 : decode cX12_worked 117 = .ok (.ifCond .le 7, 3) := by decide +kernel
theorem dX12_worked_120 : decode cX12_worked 120 = .ok (.iconst 1, 1) := by decide +kernel
theorem dX12_worked_121 : decode cX12_worked 121 = .ok (.goto 4, 3) := by decide +kernel
theorem dX12_worked_124 : decode cX12_worked 124 = .ok (.iconst 0, 1) := by decide +kernel
theorem dX12_worked_125 : decode cX12_worked 125 = .ok (.ireturn, 1) := by decide +kernel
theorem dX12_worked_126 : decode cX12_worked 126 = .ok (.lload_n 1, 1) := by decide +kernel
theorem dX12_worked_127 : decode cX12_worked 127 = .ok (.lconst 0, 1) := by decide +kernel
theorem dX12_worked_128 : decode cX12_worked 128 = .ok (.lcmp, 1) := by decide +kernel
theorem dX12_worked_129 : decode cX12_worked 129 = .ok (.ifCond .eq 13, 3) := by decide +kernel
theorem dX12_worked_132 : decode cX12_worked 132 = .ok (.lload_n 3, 1) := by decide +kernel
theorem dX12_worked_133 : decode cX12_worked 133 = .ok (.lconst 0, 1) := by decide +kernel
theorem dX12_worked_134 : decode cX12_worked 134 = .ok (.lcmp, 1) := by decide +kernel
theorem dX12_worked_135 : decode cX12_worked 135 = .ok (.ifCond .eq 7, 3) := by decide +kernel
theorem dX12_worked_138 : decode cX12_worked 138 = .ok (.iconst 1, 1) := by decide +kernel
theorem dX12_worked_139 : decode cX12_worked 139 = .ok (.goto 4, 3) := by decide +kernel
theorem dX12_worked_142 : decode cX12_worked 142 = .ok (.iconst 0, 1) := by decide +kernel
theorem dX12_worked_143 : decode cX12_worked 143 = .ok (.ireturn, 1) := by decide +kernel
theorem dX12_worked_144 : decode cX12_worked 144 = .ok (.lload_n 1, 1) := by decide +kernel
theorem dX12_worked_145 : decode cX12_worked 145 = .ok (.lconst 0, 1) := by decide +kernel
theorem dX12_worked_146 : decode cX12_worked 146 = .ok (.lcmp, 1) := by decide +kernel
theorem dX12_worked_147 : decode cX12_worked 147 = .ok (.ifCond .ne 9, 3) := by decide +kernel
theorem dX12_worked_150 : decode cX12_worked 150 = .ok (.lload_n 3, 1) := by decide +kernel
theorem dX12_worked_151 : decode cX12_worked 151 = .ok (.lconst 0, 1) := by decide +kernel
theorem dX12_worked_152 : decode cX12_worked 152 = .ok (.lcmp, 1) := by decide +kernel
theorem dX12_worked_153 : decode cX12_worked 153 = .ok (.ifCond .eq 7, 3) := by decide +kernel
theorem dX12_worked_156 : decode cX12_worked 156 = .ok (.iconst 1, 1) := by decide +kernel
theorem dX12_worked_157 : decode cX12_worked 157 = .ok (.goto 4, 3) := by decide +kernel
theorem dX12_worked_160 : decode cX12_worked 160 = .ok (.iconst 0, 1) := by decide +kernel
theorem dX12_worked_161 : decode cX12_worked 161 = .ok (.ireturn, 1) := by decide +kernel
theorem dX12_workOut_0 : decode cX12_workOut 0 = .ok (.iconst 0, 1) := by decide +kernel
theorem dX12_workOut_1 : decode cX12_workOut 1 = .ok (.istore 4, 2) := by decide +kernel
theorem dX12_workOut_3 : decode cX12_workOut 3 = .ok (.sipush 520, 3) := by decide +kernel
theorem dX12_workOut_6 : decode cX12_workOut 6 = .ok (.iload_n 1, 1) := by decide +kernel
theorem dX12_workOut_7 : decode cX12_workOut 7 = .ok (.imul, 1) := by decide +kernel
theorem dX12_workOut_8 : decode cX12_workOut 8 = .ok (.iload_n 2, 1) := by decide +kernel
theorem dX12_workOut_9 : decode cX12_workOut 9 = .ok (.iadd, 1) := by decide +kernel
theorem dX12_workOut_10 : decode cX12_workOut 10 = .ok (.istore 5, 2) := by decide +kernel
theorem dX12_workOut_12 : decode cX12_workOut 12 = .ok (.iload 5, 2) := by decide +kernel
theorem dX12_workOut_14 : decode cX12_workOut 14 = .ok (.sipush 520, 3) := by decide +kernel
theorem dX12_workOut_17 : decode cX12_workOut 17 = .ok (.iload_n 1, 1) := by decide +kernel
theorem dX12_workOut_18 : decode cX12_workOut 18 = .ok (.imul, 1) := by decide +kernel
theorem dX12_workOut_19 : decode cX12_workOut 19 = .ok (.iload_n 3, 1) := by decide +kernel
theorem dX12_workOut_20 : decode cX12_workOut 20 = .ok (.iadd, 1) := by decide +kernel
theorem dX12_workOut_21 : decode cX12_workOut 21 = .ok (.if_icmp .ge 150, 3) := by decide +kernel
theorem dX12_workOut_24 : decode cX12_workOut 24 = .ok (.aload_n 0, 1) := by decide +kernel
theorem dX12_workOut_25 : decode cX12_workOut 25 = .ok (.getfield 13, 3) := by decide +kernel
theorem dX12_workOut_28 : decode cX12_workOut 28 = .ok (.iload 5, 2) := by decide +kernel
theorem dX12_workOut_30 : decode cX12_workOut 30 = .ok (.iaload, 1) := by decide +kernel
theorem dX12_workOut_31 : decode cX12_workOut 31 = .ok (.ifCond .eq 14, 3) := by decide +kernel
theorem dX12_workOut_34 : decode cX12_workOut 34 = .ok (.aload_n 0, 1) := by decide +kernel
theorem dX12_workOut_35 : decode cX12_workOut 35 = .ok (.getfield 13, 3) := by decide +kernel
theorem dX12_workOut_38 : decode cX12_workOut 38 = .ok (.iload 5, 2) := by decide +kernel
theorem dX12_workOut_40 : decode cX12_workOut 40 = .ok (.iaload, 1) := by decide +kernel
theorem dX12_workOut_41 : decode cX12_workOut 41 = .ok (.iconst 1, 1) := by decide +kernel
theorem dX12_workOut_42 : decode cX12_workOut 42 = .ok (.if_icmp .ne 48, 3) := by decide +kernel
theorem dX12_workOut_45 : decode cX12_workOut 45 = .ok (.aload_n 0, 1) := by decide +kernel
theorem dX12_workOut_46 : decode cX12_workOut 46 = .ok (.getfield 37, 3) := by decide +kernel
theorem dX12_workOut_49 : decode cX12_workOut 49 = .ok (.iload 4, 2) := by decide +kernel
theorem dX12_workOut_51 : decode cX12_workOut 51 = .ok (.aload_n 0, 1) := by decide +kernel
theorem dX12_workOut_52 : decode cX12_workOut 52 = .ok (.getfield 13, 3) := by decide +kernel
theorem dX12_workOut_55 : decode cX12_workOut 55 = .ok (.iload 5, 2) := by decide +kernel
theorem dX12_workOut_57 : decode cX12_workOut 57 = .ok (.iaload, 1) := by decide +kernel
theorem dX12_workOut_58 : decode cX12_workOut 58 = .ok (.ifCond .ne 13, 3) := by decide +kernel
theorem dX12_workOut_61 : decode cX12_workOut 61 = .ok (.aload_n 0, 1) := by decide +kernel
theorem dX12_workOut_62 : decode cX12_workOut 62 = .ok (.getfield 16, 3) := by decide +kernel
theorem dX12_workOut_65 : decode cX12_workOut 65 = .ok (.iload 5, 2) := by decide +kernel
theorem dX12_workOut_67 : decode cX12_workOut 67 = .ok (.iaload, 1) := by decide +kernel
theorem dX12_workOut_68 : decode cX12_workOut 68 = .ok (.goto 15, 3) := by decide +kernel
theorem dX12_workOut_71 : decode cX12_workOut 71 = .ok (.aload_n 0, 1) := by decide +kernel
theorem dX12_workOut_72 : decode cX12_workOut 72 = .ok (.getfield 34, 3) := by decide +kernel
theorem dX12_workOut_75 : decode cX12_workOut 75 = .ok (.aload_n 0, 1) := by decide +kernel
theorem dX12_workOut_76 : decode cX12_workOut 76 = .ok (.getfield 16, 3) := by decide +kernel
theorem dX12_workOut_79 : decode cX12_workOut 79 = .ok (.iload 5, 2) := by decide +kernel
theorem dX12_workOut_81 : decode cX12_workOut 81 = .ok (.iaload, 1) := by decide +kernel
theorem dX12_workOut_82 : decode cX12_workOut 82 = .ok (.iaload, 1) := by decide +kernel
theorem dX12_workOut_83 : decode cX12_workOut 83 = .ok (.iastore, 1) := by decide +kernel
theorem dX12_workOut_84 : decode cX12_workOut 84 = .ok (.iinc 4 1, 3) := by decide +kernel
theorem dX12_workOut_87 : decode cX12_workOut 87 = .ok (.goto 78, 3) := by decide +kernel
theorem dX12_workOut_90 : decode cX12_workOut 90 = .ok (.aload_n 0, 1) := by decide +kernel
theorem dX12_workOut_91 : decode cX12_workOut 91 = .ok (.getfield 13, 3) := by decide +kernel
theorem dX12_workOut_94 : decode cX12_workOut 94 = .ok (.iload 5, 2) := by decide +kernel
theorem dX12_workOut_96 : decode cX12_workOut 96 = .ok (.iaload, 1) := by decide +kernel
theorem dX12_workOut_97 : decode cX12_workOut 97 = .ok (.bipush 9, 2) := by decide +kernel
theorem dX12_workOut_99 : decode cX12_workOut 99 = .ok (.if_icmp .ne 26, 3) := by decide +kernel
theorem dX12_workOut_102 : decode cX12_workOut 102 = .ok (.aload_n 0, 1) := by decide +kernel
theorem dX12_workOut_103 : decode cX12_workOut 103 = .ok (.getfield 37, 3) := by decide +kernel
theorem dX12_workOut_106 : decode cX12_workOut 106 = .ok (.iload 4, 2) := by decide +kernel
theorem dX12_workOut_108 : decode cX12_workOut 108 = .ok (.iconst 1, 1) := by decide +kernel
theorem dX12_workOut_109 : decode cX12_workOut 109 = .ok (.isub, 1) := by decide +kernel
theorem dX12_workOut_110 : decode cX12_workOut 110 = .ok (.iconst 1, 1) := by decide +kernel
theorem dX12_workOut_111 : decode cX12_workOut 111 = .ok (.aload_n 0, 1) := by decide +kernel
theorem dX12_workOut_112 : decode cX12_workOut 112 = .ok (.getfield 37, 3) := by decide +kernel
theorem dX12_workOut_115 : decode cX12_workOut 115 = .ok (.iload 4, 2) := by decide +kernel
theorem dX12_workOut_117 : decode cX12_workOut 117 = .ok (.iconst 1, 1) := by decide +kernel
theorem dX12_workOut_118 : decode cX12_workOut 118 = .ok (.isub, 1) := by decide +kernel
theorem dX12_workOut_119 : decode cX12_workOut 119 = .ok (.iaload, 1) := by decide +kernel
theorem dX12_workOut_120 : decode cX12_workOut 120 = .ok (.isub, 1) := by decide +kernel
theorem dX12_workOut_121 : decode cX12_workOut 121 = .ok (.iastore, 1) := by decide +kernel
theorem dX12_workOut_122 : decode cX12_workOut 122 = .ok (.goto 43, 3) := by decide +kernel
theorem dX12_workOut_125 : decode cX12_workOut 125 = .ok (.iinc 4 (-1), 3) := by decide +kernel
theorem dX12_workOut_128 : decode cX12_workOut 128 = .ok (.aload_n 0, 1) := by decide +kernel
theorem dX12_workOut_129 : decode cX12_workOut 129 = .ok (.getfield 37, 3) := by decide +kernel
theorem dX12_workOut_132 : decode cX12_workOut 132 = .ok (.iload 4, 2) := by decide +kernel
theorem dX12_workOut_134 : decode cX12_workOut 134 = .ok (.iconst 1, 1) := by decide +kernel
theorem dX12_workOut_135 : decode cX12_workOut 135 = .ok (.isub, 1) := by decide +kernel
theorem dX12_workOut_136 : decode cX12_workOut 136 = .ok (.aload_n 0, 1) := by decide +kernel
theorem dX12_workOut_137 : decode cX12_workOut 137 = .ok (.getfield 13, 3) := by decide +kernel
theorem dX12_workOut_140 : decode cX12_workOut 140 = .ok (.iload 5, 2) := by decide +kernel
theorem dX12_workOut_142 : decode cX12_workOut 142 = .ok (.iaload, 1) := by decide +kernel
theorem dX12_workOut_143 : decode cX12_workOut 143 = .ok (.aload_n 0, 1) := by decide +kernel
theorem dX12_workOut_144 : decode cX12_workOut 144 = .ok (.getfield 37, 3) := by decide +kernel
theorem dX12_workOut_147 : decode cX12_workOut 147 = .ok (.iload 4, 2) := by decide +kernel
theorem dX12_workOut_149 : decode cX12_workOut 149 = .ok (.iconst 1, 1) := by decide +kernel
theorem dX12_workOut_150 : decode cX12_workOut 150 = .ok (.isub, 1) := by decide +kernel
theorem dX12_workOut_151 : decode cX12_workOut 151 = .ok (.iaload, 1) := by decide +kernel
theorem dX12_workOut_152 : decode cX12_workOut 152 = .ok (.i2l, 1) := by decide +kernel
theorem dX12_workOut_153 : decode cX12_workOut 153 = .ok (.aload_n 0, 1) := by decide +kernel
theorem dX12_workOut_154 : decode cX12_workOut 154 = .ok (.getfield 37, 3) := by decide +kernel
theorem dX12_workOut_157 : decode cX12_workOut 157 = .ok (.iload 4, 2) := by decide +kernel
theorem dX12_workOut_159 : decode cX12_workOut 159 = .ok (.iaload, 1) := by decide +kernel
theorem dX12_workOut_160 : decode cX12_workOut 160 = .ok (.i2l, 1) := by decide +kernel
theorem dX12_workOut_161 : decode cX12_workOut 161 = .ok (.invokestatic 200, 3) := by decide +kernel
theorem dX12_workOut_164 : decode cX12_workOut 164 = .ok (.iastore, 1) := by decide +kernel
theorem dX12_workOut_165 : decode cX12_workOut 165 = .ok (.iinc 5 1, 3) := by decide +kernel
theorem dX12_workOut_168 : decode cX12_workOut 168 = .ok (.goto (-156), 3) := by decide +kernel
theorem dX12_workOut_171 : decode cX12_workOut 171 = .ok (.aload_n 0, 1) := by decide +kernel
theorem dX12_workOut_172 : decode cX12_workOut 172 = .ok (.getfield 37, 3) := by decide +kernel
theorem dX12_workOut_175 : decode cX12_workOut 175 = .ok (.iconst 0, 1) := by decide +kernel
theorem dX12_workOut_176 : decode cX12_workOut 176 = .ok (.iaload, 1) := by decide +kernel
theorem dX12_workOut_177 : decode cX12_workOut 177 = .ok (.ireturn, 1) := by decide +kernel
theorem dX12_worthOf_0 : decode cX12_worthOf 0 = .ok (.sipush 140, 3) := by decide +kernel
theorem dX12_worthOf_3 : decode cX12_worthOf 3 = .ok (.iload_n 1, 1) := by decide +kernel
theorem dX12_worthOf_4 : decode cX12_worthOf 4 = .ok (.imul, 1) := by decide +kernel
theorem dX12_worthOf_5 : decode cX12_worthOf 5 = .ok (.istore_n 2, 1) := by decide +kernel
theorem dX12_worthOf_6 : decode cX12_worthOf 6 = .ok (.iload_n 2, 1) := by decide +kernel
theorem dX12_worthOf_7 : decode cX12_worthOf 7 = .ok (.sipush 140, 3) := by decide +kernel
theorem dX12_worthOf_10 : decode cX12_worthOf 10 = .ok (.iload_n 1, 1) := by decide +kernel
theorem dX12_worthOf_11 : decode cX12_worthOf 11 = .ok (.imul, 1) := by decide +kernel
theorem dX12_worthOf_12 : decode cX12_worthOf 12 = .ok (.aload_n 0, 1) := by decide +kernel
theorem dX12_worthOf_13 : decode cX12_worthOf 13 = .ok (.getfield 22, 3) := by decide +kernel
theorem dX12_worthOf_16 : decode cX12_worthOf 16 = .ok (.iload_n 1, 1) := by decide +kernel
theorem dX12_worthOf_17 : decode cX12_worthOf 17 = .ok (.iaload, 1) := by decide +kernel
theorem dX12_worthOf_18 : decode cX12_worthOf 18 = .ok (.iadd, 1) := by decide +kernel
theorem dX12_worthOf_19 : decode cX12_worthOf 19 = .ok (.if_icmp .ge 62, 3) := by decide +kernel
theorem dX12_worthOf_22 : decode cX12_worthOf 22 = .ok (.aload_n 0, 1) := by decide +kernel
theorem dX12_worthOf_23 : decode cX12_worthOf 23 = .ok (.getfield 25, 3) := by decide +kernel
theorem dX12_worthOf_26 : decode cX12_worthOf 26 = .ok (.iload_n 2, 1) := by decide +kernel
theorem dX12_worthOf_27 : decode cX12_worthOf 27 = .ok (.iaload, 1) := by decide +kernel
theorem dX12_worthOf_28 : decode cX12_worthOf 28 = .ok (.aload_n 0, 1) := by decide +kernel
theorem dX12_worthOf_29 : decode cX12_worthOf 29 = .ok (.getfield 28, 3) := by decide +kernel
theorem dX12_worthOf_32 : decode cX12_worthOf 32 = .ok (.iload_n 2, 1) := by decide +kernel
theorem dX12_worthOf_33 : decode cX12_worthOf 33 = .ok (.iaload, 1) := by decide +kernel
theorem dX12_worthOf_34 : decode cX12_worthOf 34 = .ok (.if_icmp .eq 23, 3) := by decide +kernel
theorem dX12_worthOf_37 : decode cX12_worthOf 37 = .ok (.aload_n 0, 1) := by decide +kernel
theorem dX12_worthOf_38 : decode cX12_worthOf 38 = .ok (.iload_n 1, 1) := by decide +kernel
theorem dX12_worthOf_39 : decode cX12_worthOf 39 = .ok (.aload_n 0, 1) := by decide +kernel
theorem dX12_worthOf_40 : decode cX12_worthOf 40 = .ok (.getfield 25, 3) := by decide +kernel
theorem dX12_worthOf_43 : decode cX12_worthOf 43 = .ok (.iload_n 2, 1) := by decide +kernel
theorem dX12_worthOf_44 : decode cX12_worthOf 44 = .ok (.iaload, 1) := by decide +kernel
theorem dX12_worthOf_45 : decode cX12_worthOf 45 = .ok (.aload_n 0, 1) := by decide +kernel
theorem dX12_worthOf_46 : decode cX12_worthOf 46 = .ok (.getfield 28, 3) := by decide +kernel
theorem dX12_worthOf_49 : decode cX12_worthOf 49 = .ok (.iload_n 2, 1) := by decide +kernel
theorem dX12_worthOf_50 : decode cX12_worthOf 50 = .ok (.iaload, 1) := by decide +kernel
theorem dX12_worthOf_51 : decode cX12_worthOf 51 = .ok (.invokevirtual 204, 3) := by decide +kernel
theorem dX12_worthOf_54 : decode cX12_worthOf 54 = .ok (.ifCond .eq 21, 3) := by decide +kernel
theorem dX12_worthOf_57 : decode cX12_worthOf 57 = .ok (.aload_n 0, 1) := by decide +kernel
theorem dX12_worthOf_58 : decode cX12_worthOf 58 = .ok (.iload_n 1, 1) := by decide +kernel
theorem dX12_worthOf_59 : decode cX12_worthOf 59 = .ok (.aload_n 0, 1) := by decide +kernel
theorem dX12_worthOf_60 : decode cX12_worthOf 60 = .ok (.getfield 28, 3) := by decide +kernel
theorem dX12_worthOf_63 : decode cX12_worthOf 63 = .ok (.iload_n 2, 1) := by decide +kernel
theorem dX12_worthOf_64 : decode cX12_worthOf 64 = .ok (.iaload, 1) := by decide +kernel
theorem dX12_worthOf_65 : decode cX12_worthOf 65 = .ok (.aload_n 0, 1) := by decide +kernel
theorem dX12_worthOf_66 : decode cX12_worthOf 66 = .ok (.getfield 31, 3) := by decide +kernel
theorem dX12_worthOf_69 : decode cX12_worthOf 69 = .ok (.iload_n 2, 1) := by decide +kernel
theorem dX12_worthOf_70 : decode cX12_worthOf 70 = .ok (.iaload, 1) := by decide +kernel
theorem dX12_worthOf_71 : decode cX12_worthOf 71 = .ok (.invokevirtual 204, 3) := by decide +kernel
theorem dX12_worthOf_74 : decode cX12_worthOf 74 = .ok (.ireturn, 1) := by decide +kernel
theorem dX12_worthOf_75 : decode cX12_worthOf 75 = .ok (.iinc 2 1, 3) := by decide +kernel
theorem dX12_worthOf_78 : decode cX12_worthOf 78 = .ok (.goto (-72), 3) := by decide +kernel
theorem dX12_worthOf_81 : decode cX12_worthOf 81 = .ok (.iconst 0, 1) := by decide +kernel
theorem dX12_worthOf_82 : decode cX12_worthOf 82 = .ok (.ireturn, 1) := by decide +kernel
theorem dX12_number_0 : decode cX12_number 0 = .ok (.aload_n 0, 1) := by decide +kernel
theorem dX12_number_1 : decode cX12_number 1 = .ok (.invokevirtual 122, 3) := by decide +kernel
theorem dX12_number_4 : decode cX12_number 4 = .ok (.invokestatic 125, 3) := by decide +kernel
theorem dX12_number_7 : decode cX12_number 7 = .ok (.ifCond .ne 9, 3) := by decide +kernel
theorem dX12_number_10 : decode cX12_number 10 = .ok (.aload_n 0, 1) := by decide +kernel
theorem dX12_number_11 : decode cX12_number 11 = .ok (.invokevirtual 119, 3) := by decide +kernel
theorem dX12_number_14 : decode cX12_number 14 = .ok (.iload_n 1, 1) := by decide +kernel
theorem dX12_number_15 : decode cX12_number 15 = .ok (.ireturn, 1) := by decide +kernel
theorem dX12_number_16 : decode cX12_number 16 = .ok (.aload_n 0, 1) := by decide +kernel
theorem dX12_number_17 : decode cX12_number 17 = .ok (.invokevirtual 106, 3) := by decide +kernel
theorem dX12_number_20 : decode cX12_number 20 = .ok (.bipush 48, 2) := by decide +kernel
theorem dX12_number_22 : decode cX12_number 22 = .ok (.isub, 1) := by decide +kernel
theorem dX12_number_23 : decode cX12_number 23 = .ok (.istore_n 3, 1) := by decide +kernel
theorem dX12_number_24 : decode cX12_number 24 = .ok (.aload_n 0, 1) := by decide +kernel
theorem dX12_number_25 : decode cX12_number 25 = .ok (.dup, 1) := by decide +kernel
theorem dX12_number_26 : decode cX12_number 26 = .ok (.getfield 103, 3) := by decide +kernel
theorem dX12_number_29 : decode cX12_number 29 = .ok (.iconst 1, 1) := by decide +kernel
theorem dX12_number_30 : decode cX12_number 30 = .ok (.iadd, 1) := by decide +kernel
theorem dX12_number_31 : decode cX12_number 31 = .ok (.putfield 103, 3) := by decide +kernel
theorem dX12_number_34 : decode cX12_number 34 = .ok (.aload_n 0, 1) := by decide +kernel
theorem dX12_number_35 : decode cX12_number 35 = .ok (.invokevirtual 106, 3) := by decide +kernel
theorem dX12_number_38 : decode cX12_number 38 = .ok (.invokestatic 125, 3) := by decide +kernel
theorem dX12_number_41 : decode cX12_number 41 = .ok (.ifCond .eq 26, 3) := by decide +kernel
theorem dX12_number_44 : decode cX12_number 44 = .ok (.bipush 10, 2) := by decide +kernel
theorem dX12_number_46 : decode cX12_number 46 = .ok (.iload_n 3, 1) := by decide +kernel
theorem dX12_number_47 : decode cX12_number 47 = .ok (.imul, 1) := by decide +kernel
theorem dX12_number_48 : decode cX12_number 48 = .ok (.aload_n 0, 1) := by decide +kernel
theorem dX12_number_49 : decode cX12_number 49 = .ok (.invokevirtual 106, 3) := by decide +kernel
theorem dX12_number_52 : decode cX12_number 52 = .ok (.iadd, 1) := by decide +kernel
theorem dX12_number_53 : decode cX12_number 53 = .ok (.bipush 48, 2) := by decide +kernel
theorem dX12_number_55 : decode cX12_number 55 = .ok (.isub, 1) := by decide +kernel
theorem dX12_number_56 : decode cX12_number 56 = .ok (.istore_n 3, 1) := by decide +kernel
theorem dX12_number_57 : decode cX12_number 57 = .ok (.aload_n 0, 1) := by decide +kernel
theorem dX12_number_58 : decode cX12_number 58 = .ok (.dup, 1) := by decide +kernel
theorem dX12_number_59 : decode cX12_number 59 = .ok (.getfield 103, 3) := by decide +kernel
theorem dX12_number_62 : decode cX12_number 62 = .ok (.iconst 1, 1) := by decide +kernel
theorem dX12_number_63 : decode cX12_number 63 = .ok (.iadd, 1) := by decide +kernel
theorem dX12_number_64 : decode cX12_number 64 = .ok (.putfield 103, 3) := by decide +kernel
theorem dX12_number_67 : decode cX12_number 67 = .ok (.aload_n 0, 1) := by decide +kernel
theorem dX12_number_68 : decode cX12_number 68 = .ok (.invokevirtual 106, 3) := by decide +kernel
theorem dX12_number_71 : decode cX12_number 71 = .ok (.invokestatic 125, 3) := by decide +kernel
theorem dX12_number_74 : decode cX12_number 74 = .ok (.ifCond .eq 10, 3) := by decide +kernel
theorem dX12_number_77 : decode cX12_number 77 = .ok (.aload_n 0, 1) := by decide +kernel
theorem dX12_number_78 : decode cX12_number 78 = .ok (.invokevirtual 119, 3) := by decide +kernel
theorem dX12_number_81 : decode cX12_number 81 = .ok (.goto 26, 3) := by decide +kernel
theorem dX12_number_84 : decode cX12_number 84 = .ok (.iload_n 3, 1) := by decide +kernel
theorem dX12_number_85 : decode cX12_number 85 = .ok (.iload_n 1, 1) := by decide +kernel
theorem dX12_number_86 : decode cX12_number 86 = .ok (.iload_n 2, 1) := by decide +kernel
theorem dX12_number_87 : decode cX12_number 87 = .ok (.invokestatic 208, 3) := by decide +kernel
theorem dX12_number_90 : decode cX12_number 90 = .ok (.ifCond .ne 17, 3) := by decide +kernel
theorem dX12_number_93 : decode cX12_number 93 = .ok (.aload_n 0, 1) := by decide +kernel
theorem dX12_number_94 : decode cX12_number 94 = .ok (.dup, 1) := by decide +kernel
theorem dX12_number_95 : decode cX12_number 95 = .ok (.getfield 103, 3) := by decide +kernel
theorem dX12_number_98 : decode cX12_number 98 = .ok (.iconst 1, 1) := by decide +kernel
theorem dX12_number_99 : decode cX12_number 99 = .ok (.isub, 1) := by decide +kernel
theorem dX12_number_100 : decode cX12_number 100 = .ok (.putfield 103, 3) := by decide +kernel
theorem dX12_number_103 : decode cX12_number 103 = .ok (.aload_n 0, 1) := by decide +kernel
theorem dX12_number_104 : decode cX12_number 104 = .ok (.invokevirtual 119, 3) := by decide +kernel
theorem dX12_number_107 : decode cX12_number 107 = .ok (.iload_n 3, 1) := by decide +kernel
theorem dX12_number_108 : decode cX12_number 108 = .ok (.ireturn, 1) := by decide +kernel
theorem dX12_itemOf_0 : decode cX12_itemOf 0 = .ok (.iload_n 0, 1) := by decide +kernel
theorem dX12_itemOf_1 : decode cX12_itemOf 1 = .ok (.bipush 115, 2) := by decide +kernel
theorem dX12_itemOf_3 : decode cX12_itemOf 3 = .ok (.if_icmp .ne 35, 3) := by decide +kernel
theorem dX12_itemOf_6 : decode cX12_itemOf 6 = .ok (.iload_n 1, 1) := by decide +kernel
theorem dX12_itemOf_7 : decode cX12_itemOf 7 = .ok (.bipush 102, 2) := by decide +kernel
theorem dX12_itemOf_9 : decode cX12_itemOf 9 = .ok (.if_icmp .ne 7, 3) := by decide +kernel
theorem dX12_itemOf_12 : decode cX12_itemOf 12 = .ok (.iconst 0, 1) := by decide +kernel
theorem dX12_itemOf_13 : decode cX12_itemOf 13 = .ok (.goto 24, 3) := by decide +kernel
theorem dX12_itemOf_16 : decode cX12_itemOf 16 = .ok (.iload_n 1, 1) := by decide +kernel
theorem dX12_itemOf_17 : decode cX12_itemOf 17 = .ok (.bipush 111, 2) := by decide +kernel
theorem dX12_itemOf_19 : decode cX12_itemOf 19 = .ok (.if_icmp .ne 7, 3) := by decide +kernel
theorem dX12_itemOf_22 : decode cX12_itemOf 22 = .ok (.iconst 1, 1) := by decide +kernel
theorem dX12_itemOf_23 : decode cX12_itemOf 23 = .ok (.goto 14, 3) := by decide +kernel
theorem dX12_itemOf_26 : decode cX12_itemOf 26 = .ok (.iload_n 1, 1) := by decide +kernel
theorem dX12_itemOf_27 : decode cX12_itemOf 27 = .ok (.bipush 107, 2) := by decide +kernel
theorem dX12_itemOf_29 : decode cX12_itemOf 29 = .ok (.if_icmp .ne 7, 3) := by decide +kernel
theorem dX12_itemOf_32 : decode cX12_itemOf 32 = .ok (.iconst 2, 1) := by decide +kernel
theorem dX12_itemOf_33 : decode cX12_itemOf 33 = .ok (.goto 4, 3) := by decide +kernel
theorem dX12_itemOf_36 : decode cX12_itemOf 36 = .ok (.iconst (-1), 1) := by decide +kernel
theorem dX12_itemOf_37 : decode cX12_itemOf 37 = .ok (.ireturn, 1) := by decide +kernel
theorem dX12_itemOf_38 : decode cX12_itemOf 38 = .ok (.iload_n 1, 1) := by decide +kernel
theorem dX12_itemOf_39 : decode cX12_itemOf 39 = .ok (.bipush 118, 2) := by decide +kernel
theorem dX12_itemOf_41 : decode cX12_itemOf 41 = .ok (.if_icmp .ne 7, 3) := by decide +kernel
theorem dX12_itemOf_44 : decode cX12_itemOf 44 = .ok (.iconst 0, 1) := by decide +kernel
theorem dX12_itemOf_45 : decode cX12_itemOf 45 = .ok (.goto 34, 3) := by decide +kernel
theorem dX12_itemOf_48 : decode cX12_itemOf 48 = .ok (.iload_n 1, 1) := by decide +kernel
theorem dX12_itemOf_49 : decode cX12_itemOf 49 = .ok (.bipush 98, 2) := by decide +kernel
theorem dX12_itemOf_51 : decode cX12_itemOf 51 = .ok (.if_icmp .ne 7, 3) := by decide +kernel
theorem dX12_itemOf_54 : decode cX12_itemOf 54 = .ok (.iconst 1, 1) := by decide +kernel
theorem dX12_itemOf_55 : decode cX12_itemOf 55 = .ok (.goto 24, 3) := by decide +kernel
theorem dX12_itemOf_58 : decode cX12_itemOf 58 = .ok (.iload_n 1, 1) := by decide +kernel
theorem dX12_itemOf_59 : decode cX12_itemOf 59 = .ok (.bipush 112, 2) := by decide +kernel
theorem dX12_itemOf_61 : decode cX12_itemOf 61 = .ok (.if_icmp .ne 7, 3) := by decide +kernel
theorem dX12_itemOf_64 : decode cX12_itemOf 64 = .ok (.iconst 2, 1) := by decide +kernel
theorem dX12_itemOf_65 : decode cX12_itemOf 65 = .ok (.goto 14, 3) := by decide +kernel
theorem dX12_itemOf_68 : decode cX12_itemOf 68 = .ok (.iload_n 1, 1) := by decide +kernel
theorem dX12_itemOf_69 : decode cX12_itemOf 69 = .ok (.bipush 114, 2) := by decide +kernel
theorem dX12_itemOf_71 : decode cX12_itemOf 71 = .ok (.if_icmp .ne 7, 3) := by decide +kernel
theorem dX12_itemOf_74 : decode cX12_itemOf 74 = .ok (.iconst 3, 1) := by decide +kernel
theorem dX12_itemOf_75 : decode cX12_itemOf 75 = .ok (.goto 4, 3) := by decide +kernel
theorem dX12_itemOf_78 : decode cX12_itemOf 78 = .ok (.iconst (-1), 1) := by decide +kernel
theorem dX12_itemOf_79 : decode cX12_itemOf 79 = .ok (.ireturn, 1) := by decide +kernel
theorem dX12_highest_0 : decode cX12_highest 0 = .ok (.iload_n 0, 1) := by decide +kernel
theorem dX12_highest_1 : decode cX12_highest 1 = .ok (.bipush 115, 2) := by decide +kernel
theorem dX12_highest_3 : decode cX12_highest 3 = .ok (.if_icmp .ne 15, 3) := by decide +kernel
theorem dX12_highest_6 : decode cX12_highest 6 = .ok (.iload_n 1, 1) := by decide +kernel
theorem dX12_highest_7 : decode cX12_highest 7 = .ok (.ifCond .ne 8, 3) := by decide +kernel
theorem dX12_highest_10 : decode cX12_highest 10 = .ok (.bipush 60, 2) := by decide +kernel
theorem dX12_highest_12 : decode cX12_highest 12 = .ok (.goto 5, 3) := by decide +kernel
theorem dX12_highest_15 : decode cX12_highest 15 = .ok (.bipush 99, 2) := by decide +kernel
theorem dX12_highest_17 : decode cX12_highest 17 = .ok (.ireturn, 1) := by decide +kernel
theorem dX12_highest_18 : decode cX12_highest 18 = .ok (.iload_n 1, 1) := by decide +kernel
theorem dX12_highest_19 : decode cX12_highest 19 = .ok (.ifCond .ne 8, 3) := by decide +kernel
theorem dX12_highest_22 : decode cX12_highest 22 = .ok (.bipush 9, 2) := by decide +kernel
theorem dX12_highest_24 : decode cX12_highest 24 = .ok (.goto 23, 3) := by decide +kernel
theorem dX12_highest_27 : decode cX12_highest 27 = .ok (.iload_n 1, 1) := by decide +kernel
theorem dX12_highest_28 : decode cX12_highest 28 = .ok (.iconst 1, 1) := by decide +kernel
theorem dX12_highest_29 : decode cX12_highest 29 = .ok (.if_icmp .ne 7, 3) := by decide +kernel
theorem dX12_highest_32 : decode cX12_highest 32 = .ok (.iconst 1, 1) := by decide +kernel
theorem dX12_highest_33 : decode cX12_highest 33 = .ok (.goto 14, 3) := by decide +kernel
theorem dX12_highest_36 : decode cX12_highest 36 = .ok (.iload_n 1, 1) := by decide +kernel
theorem dX12_highest_37 : decode cX12_highest 37 = .ok (.iconst 2, 1) := by decide +kernel
theorem dX12_highest_38 : decode cX12_highest 38 = .ok (.if_icmp .ne 8, 3) := by decide +kernel
theorem dX12_highest_41 : decode cX12_highest 41 = .ok (.bipush 15, 2) := by decide +kernel
theorem dX12_highest_43 : decode cX12_highest 43 = .ok (.goto 4, 3) := by decide +kernel
theorem dX12_highest_46 : decode cX12_highest 46 = .ok (.iconst 5, 1) := by decide +kernel
theorem dX12_highest_47 : decode cX12_highest 47 = .ok (.ireturn, 1) := by decide +kernel
theorem dX12_usual_0 : decode cX12_usual 0 = .ok (.iload_n 0, 1) := by decide +kernel
theorem dX12_usual_1 : decode cX12_usual 1 = .ok (.bipush 115, 2) := by decide +kernel
theorem dX12_usual_3 : decode cX12_usual 3 = .ok (.if_icmp .ne 25, 3) := by decide +kernel
theorem dX12_usual_6 : decode cX12_usual 6 = .ok (.iload_n 1, 1) := by decide +kernel
theorem dX12_usual_7 : decode cX12_usual 7 = .ok (.ifCond .ne 8, 3) := by decide +kernel
theorem dX12_usual_10 : decode cX12_usual 10 = .ok (.bipush 6, 2) := by decide +kernel
theorem dX12_usual_12 : decode cX12_usual 12 = .ok (.goto 15, 3) := by decide +kernel
theorem dX12_usual_15 : decode cX12_usual 15 = .ok (.iload_n 1, 1) := by decide +kernel
theorem dX12_usual_16 : decode cX12_usual 16 = .ok (.iconst 1, 1) := by decide +kernel
theorem dX12_usual_17 : decode cX12_usual 17 = .ok (.if_icmp .ne 8, 3) := by decide +kernel
theorem dX12_usual_20 : decode cX12_usual 20 = .ok (.bipush 40, 2) := by decide +kernel
theorem dX12_usual_22 : decode cX12_usual 22 = .ok (.goto 5, 3) := by decide +kernel
theorem dX12_usual_25 : decode cX12_usual 25 = .ok (.bipush 20, 2) := by decide +kernel
theorem dX12_usual_27 : decode cX12_usual 27 = .ok (.ireturn, 1) := by decide +kernel
theorem dX12_usual_28 : decode cX12_usual 28 = .ok (.iload_n 1, 1) := by decide +kernel
theorem dX12_usual_29 : decode cX12_usual 29 = .ok (.ifCond .ne 7, 3) := by decide +kernel
theorem dX12_usual_32 : decode cX12_usual 32 = .ok (.iconst 1, 1) := by decide +kernel
theorem dX12_usual_33 : decode cX12_usual 33 = .ok (.goto 4, 3) := by decide +kernel
theorem dX12_usual_36 : decode cX12_usual 36 = .ok (.iconst 0, 1) := by decide +kernel
theorem dX12_usual_37 : decode cX12_usual 37 = .ok (.ireturn, 1) := by decide +kernel
theorem dX12_items_0 : decode cX12_items 0 = .ok (.iconst 0, 1) := by decide +kernel
theorem dX12_items_1 : decode cX12_items 1 = .ok (.istore 5, 2) := by decide +kernel
theorem dX12_items_3 : decode cX12_items 3 = .ok (.iload 5, 2) := by decide +kernel
theorem dX12_items_5 : decode cX12_items 5 = .ok (.iload 4, 2) := by decide +kernel
theorem dX12_items_7 : decode cX12_items 7 = .ok (.if_icmp .ge 21, 3) := by decide +kernel
theorem dX12_items_10 : decode cX12_items 10 = .ok (.aload_n 2, 1) := by decide +kernel
theorem dX12_items_11 : decode cX12_items 11 = .ok (.iload_n 3, 1) := by decide +kernel
theorem dX12_items_12 : decode cX12_items 12 = .ok (.iload 5, 2) := by decide +kernel
theorem dX12_items_14 : decode cX12_items 14 = .ok (.iadd, 1) := by decide +kernel
theorem dX12_items_15 : decode cX12_items 15 = .ok (.iload_n 1, 1) := by decide +kernel
theorem dX12_items_16 : decode cX12_items 16 = .ok (.iload 5, 2) := by decide +kernel
theorem dX12_items_18 : decode cX12_items 18 = .ok (.invokestatic 212, 3) := by decide +kernel
theorem dX12_items_21 : decode cX12_items 21 = .ok (.iastore, 1) := by decide +kernel
theorem dX12_items_22 : decode cX12_items 22 = .ok (.iinc 5 1, 3) := by decide +kernel
theorem dX12_items_25 : decode cX12_items 25 = .ok (.goto (-22), 3) := by decide +kernel
theorem dX12_items_28 : decode cX12_items 28 = .ok (.iconst 0, 1) := by decide +kernel
theorem dX12_items_29 : decode cX12_items 29 = .ok (.istore 5, 2) := by decide +kernel
theorem dX12_items_31 : decode cX12_items 31 = .ok (.iload_n 1, 1) := by decide +kernel
theorem dX12_items_32 : decode cX12_items 32 = .ok (.aload_n 0, 1) := by decide +kernel
theorem dX12_items_33 : decode cX12_items 33 = .ok (.invokevirtual 122, 3) := by decide +kernel
theorem dX12_items_36 : decode cX12_items 36 = .ok (.invokestatic 216, 3) := by decide +kernel
theorem dX12_items_39 : decode cX12_items 39 = .ok (.istore 6, 2) := by decide +kernel
theorem dX12_items_41 : decode cX12_items 41 = .ok (.aload_n 0, 1) := by decide +kernel
theorem dX12_items_42 : decode cX12_items 42 = .ok (.getfield 110, 3) := by decide +kernel
theorem dX12_items_45 : decode cX12_items 45 = .ok (.iconst (-1), 1) := by decide +kernel
theorem dX12_items_46 : decode cX12_items 46 = .ok (.if_icmp .ne 95, 3) := by decide +kernel
theorem dX12_items_49 : decode cX12_items 49 = .ok (.iload 6, 2) := by decide +kernel
theorem dX12_items_51 : decode cX12_items 51 = .ok (.iconst (-1), 1) := by decide +kernel
theorem dX12_items_52 : decode cX12_items 52 = .ok (.if_icmp .eq 89, 3) := by decide +kernel
theorem dX12_items_55 : decode cX12_items 55 = .ok (.iload 5, 2) := by decide +kernel
theorem dX12_items_57 : decode cX12_items 57 = .ok (.iload 6, 2) := by decide +kernel
theorem dX12_items_59 : decode cX12_items 59 = .ok (.invokestatic 219, 3) := by decide +kernel
theorem dX12_items_62 : decode cX12_items 62 = .ok (.ifCond .ne 79, 3) := by decide +kernel
theorem dX12_items_65 : decode cX12_items 65 = .ok (.iload 5, 2) := by decide +kernel
theorem dX12_items_67 : decode cX12_items 67 = .ok (.iconst 1, 1) := by decide +kernel
theorem dX12_items_68 : decode cX12_items 68 = .ok (.iload 6, 2) := by decide +kernel
theorem dX12_items_70 : decode cX12_items 70 = .ok (.ishl, 1) := by decide +kernel
theorem dX12_items_71 : decode cX12_items 71 = .ok (.ior, 1) := by decide +kernel
theorem dX12_items_72 : decode cX12_items 72 = .ok (.istore 5, 2) := by decide +kernel
theorem dX12_items_74 : decode cX12_items 74 = .ok (.aload_n 0, 1) := by decide +kernel
theorem dX12_items_75 : decode cX12_items 75 = .ok (.dup, 1) := by decide +kernel
theorem dX12_items_76 : decode cX12_items 76 = .ok (.getfield 103, 3) := by decide +kernel
theorem dX12_items_79 : decode cX12_items 79 = .ok (.iconst 1, 1) := by decide +kernel
theorem dX12_items_80 : decode cX12_items 80 = .ok (.iadd, 1) := by decide +kernel
theorem dX12_items_81 : decode cX12_items 81 = .ok (.putfield 103, 3) := by decide +kernel
theorem dX12_items_84 : decode cX12_items 84 = .ok (.aload_n 2, 1) := by decide +kernel
theorem dX12_items_85 : decode cX12_items 85 = .ok (.iload_n 3, 1) := by decide +kernel
theorem dX12_items_86 : decode cX12_items 86 = .ok (.iload 6, 2) := by decide +kernel
theorem dX12_items_88 : decode cX12_items 88 = .ok (.iadd, 1) := by decide +kernel
theorem dX12_items_89 : decode cX12_items 89 = .ok (.aload_n 0, 1) := by decide +kernel
theorem dX12_items_90 : decode cX12_items 90 = .ok (.iload_n 1, 1) := by decide +kernel
theorem dX12_items_91 : decode cX12_items 91 = .ok (.bipush 115, 2) := by decide +kernel
theorem dX12_items_93 : decode cX12_items 93 = .ok (.if_icmp .ne 12, 3) := by decide +kernel
theorem dX12_items_96 : decode cX12_items 96 = .ok (.iload 6, 2) := by decide +kernel
theorem dX12_items_98 : decode cX12_items 98 = .ok (.ifCond .ne 7, 3) := by decide +kernel
theorem dX12_items_101 : decode cX12_items 101 = .ok (.iconst 1, 1) := by decide +kernel
theorem dX12_items_102 : decode cX12_items 102 = .ok (.goto 4, 3) := by decide +kernel
theorem dX12_items_105 : decode cX12_items 105 = .ok (.iconst 0, 1) := by decide +kernel
theorem dX12_items_106 : decode cX12_items 106 = .ok (.iload_n 1, 1) := by decide +kernel
theorem dX12_items_107 : decode cX12_items 107 = .ok (.iload 6, 2) := by decide +kernel
theorem dX12_items_109 : decode cX12_items 109 = .ok (.invokestatic 223, 3) := by decide +kernel
theorem dX12_items_112 : decode cX12_items 112 = .ok (.invokevirtual 226, 3) := by decide +kernel
theorem dX12_items_115 : decode cX12_items 115 = .ok (.iastore, 1) := by decide +kernel
theorem dX12_items_116 : decode cX12_items 116 = .ok (.aload_n 0, 1) := by decide +kernel
theorem dX12_items_117 : decode cX12_items 117 = .ok (.getfield 110, 3) := by decide +kernel
theorem dX12_items_120 : decode cX12_items 120 = .ok (.iconst (-1), 1) := by decide +kernel
theorem dX12_items_121 : decode cX12_items 121 = .ok (.if_icmp .ne 14, 3) := by decide +kernel
theorem dX12_items_124 : decode cX12_items 124 = .ok (.iload_n 1, 1) := by decide +kernel
theorem dX12_items_125 : decode cX12_items 125 = .ok (.aload_n 0, 1) := by decide +kernel
theorem dX12_items_126 : decode cX12_items 126 = .ok (.invokevirtual 122, 3) := by decide +kernel
theorem dX12_items_129 : decode cX12_items 129 = .ok (.invokestatic 216, 3) := by decide +kernel
theorem dX12_items_132 : decode cX12_items 132 = .ok (.goto 4, 3) := by decide +kernel
theorem dX12_items_135 : decode cX12_items 135 = .ok (.iconst (-1), 1) := by decide +kernel
theorem dX12_items_136 : decode cX12_items 136 = .ok (.istore 6, 2) := by decide +kernel
theorem dX12_items_138 : decode cX12_items 138 = .ok (.goto (-97), 3) := by decide +kernel
theorem dX12_items_141 : decode cX12_items 141 = .ok (.return_, 1) := by decide +kernel
theorem dX12_readLantern_0 : decode cX12_readLantern 0 = .ok (.aload_n 0, 1) := by decide +kernel
theorem dX12_readLantern_1 : decode cX12_readLantern 1 = .ok (.iconst 0, 1) := by decide +kernel
theorem dX12_readLantern_2 : decode cX12_readLantern 2 = .ok (.putfield 103, 3) := by decide +kernel
theorem dX12_readLantern_5 : decode cX12_readLantern 5 = .ok (.aload_n 0, 1) := by decide +kernel
theorem dX12_readLantern_6 : decode cX12_readLantern 6 = .ok (.iconst (-1), 1) := by decide +kernel
theorem dX12_readLantern_7 : decode cX12_readLantern 7 = .ok (.putfield 110, 3) := by decide +kernel
theorem dX12_readLantern_10 : decode cX12_readLantern 10 = .ok (.aload_n 0, 1) := by decide +kernel
theorem dX12_readLantern_11 : decode cX12_readLantern 11 = .ok (.iconst 0, 1) := by decide +kernel
theorem dX12_readLantern_12 : decode cX12_readLantern 12 = .ok (.putfield 229, 3) := by decide +kernel
theorem dX12_readLantern_15 : decode cX12_readLantern 15 = .ok (.iconst 0, 1) := by decide +kernel
theorem dX12_readLantern_16 : decode cX12_readLantern 16 = .ok (.istore_n 1, 1) := by decide +kernel
theorem dX12_readLantern_17 : decode cX12_readLantern 17 = .ok (.iconst 0, 1) := by decide +kernel
theorem dX12_readLantern_18 : decode cX12_readLantern 18 = .ok (.istore_n 2, 1) := by decide +kernel
theorem dX12_readLantern_19 : decode cX12_readLantern 19 = .ok (.iload_n 2, 1) := by decide +kernel
theorem dX12_readLantern_20 : decode cX12_readLantern 20 = .ok (.iconst 3, 1) := by decide +kernel
theorem dX12_readLantern_21 : decode cX12_readLantern 21 = .ok (.if_icmp .ge 21, 3) := by decide +kernel
theorem dX12_readLantern_24 : decode cX12_readLantern 24 = .ok (.aload_n 0, 1) := by decide +kernel
theorem dX12_readLantern_25 : decode cX12_readLantern 25 = .ok (.getfield 40, 3) := by decide +kernel
theorem dX12_readLantern_28 : decode cX12_readLantern 28 = .ok (.iload_n 2, 1) := by decide +kernel
theorem dX12_readLantern_29 : decode cX12_readLantern 29 = .ok (.bipush 115, 2) := by decide +kernel
theorem dX12_readLantern_31 : decode cX12_readLantern 31 = .ok (.iload_n 2, 1) := by decide +kernel
theorem dX12_readLantern_32 : decode cX12_readLantern 32 = .ok (.invokestatic 212, 3) := by decide +kernel
theorem dX12_readLantern_35 : decode cX12_readLantern 35 = .ok (.iastore, 1) := by decide +kernel
theorem dX12_readLantern_36 : decode cX12_readLantern 36 = .ok (.iinc 2 1, 3) := by decide +kernel
theorem dX12_readLantern_39 : decode cX12_readLantern 39 = .ok (.goto (-20), 3) := by decide +kernel
theorem dX12_readLantern_42 : decode cX12_readLantern 42 = .ok (.iconst 1, 1) := by decide +kernel
theorem dX12_readLantern_43 : decode cX12_readLantern 43 = .ok (.istore_n 2, 1) := by decide +kernel
theorem dX12_readLantern_44 : decode cX12_readLantern 44 = .ok (.iload_n 2, 1) := by decide +kernel
theorem dX12_readLantern_45 : decode cX12_readLantern 45 = .ok (.ifCond .eq 153, 3) := by decide +kernel
theorem dX12_readLantern_48 : decode cX12_readLantern 48 = .ok (.aload_n 0, 1) := by decide +kernel
theorem dX12_readLantern_49 : decode cX12_readLantern 49 = .ok (.getfield 110, 3) := by decide +kernel
theorem dX12_readLantern_52 : decode cX12_readLantern 52 = .ok (.iconst (-1), 1) := by decide +kernel
theorem dX12_readLantern_53 : decode cX12_readLantern 53 = .ok (.if_icmp .ne 145, 3) := by decide +kernel
theorem dX12_readLantern_56 : decode cX12_readLantern 56 = .ok (.aload_n 0, 1) := by decide +kernel
theorem dX12_readLantern_57 : decode cX12_readLantern 57 = .ok (.invokevirtual 122, 3) := by decide +kernel
theorem dX12_readLantern_60 : decode cX12_readLantern 60 = .ok (.istore_n 3, 1) := by decide +kernel
theorem dX12_readLantern_61 : decode cX12_readLantern 61 = .ok (.iload_n 3, 1) := by decide +kernel
theorem dX12_readLantern_62 : decode cX12_readLantern 62 = .ok (.bipush 115, 2) := by decide +kernel
theorem dX12_readLantern_64 : decode cX12_readLantern 64 = .ok (.if_icmp .ne 33, 3) := by decide +kernel
theorem dX12_readLantern_67 : decode cX12_readLantern 67 = .ok (.iload_n 1, 1) := by decide +kernel
theorem dX12_readLantern_68 : decode cX12_readLantern 68 = .ok (.ifCond .ne 29, 3) := by decide +kernel
theorem dX12_readLantern_71 : decode cX12_readLantern 71 = .ok (.iconst 1, 1) := by decide +kernel
theorem dX12_readLantern_72 : decode cX12_readLantern 72 = .ok (.istore_n 1, 1) := by decide +kernel
theorem dX12_readLantern_73 : decode cX12_readLantern 73 = .ok (.aload_n 0, 1) := by decide +kernel
theorem dX12_readLantern_74 : decode cX12_readLantern 74 = .ok (.dup, 1) := by decide +kernel
theorem dX12_readLantern_75 : decode cX12_readLantern 75 = .ok (.getfield 103, 3) := by decide +kernel
theorem dX12_readLantern_78 : decode cX12_readLantern 78 = .ok (.iconst 1, 1) := by decide +kernel
theorem dX12_readLantern_79 : decode cX12_readLantern 79 = .ok (.iadd, 1) := by decide +kernel
theorem dX12_readLantern_80 : decode cX12_readLantern 80 = .ok (.putfield 103, 3) := by decide +kernel
theorem dX12_readLantern_83 : decode cX12_readLantern 83 = .ok (.aload_n 0, 1) := by decide +kernel
theorem dX12_readLantern_84 : decode cX12_readLantern 84 = .ok (.iload_n 3, 1) := by decide +kernel
theorem dX12_readLantern_85 : decode cX12_readLantern 85 = .ok (.aload_n 0, 1) := by decide +kernel
theorem dX12_readLantern_86 : decode cX12_readLantern 86 = .ok (.getfield 40, 3) := by decide +kernel
theorem dX12_readLantern_89 : decode cX12_readLantern 89 = .ok (.iconst 0, 1) := by decide +kernel
theorem dX12_readLantern_90 : decode cX12_readLantern 90 = .ok (.iconst 3, 1) := by decide +kernel
theorem dX12_readLantern_91 : decode cX12_readLantern 91 = .ok (.invokevirtual 232, 3) := by decide +kernel
theorem dX12_readLantern_94 : decode cX12_readLantern 94 = .ok (.goto 60, 3) := by decide +kernel
theorem dX12_readLantern_97 : decode cX12_readLantern 97 = .ok (.iload_n 3, 1) := by decide +kernel
theorem dX12_readLantern_98 : decode cX12_readLantern 98 = .ok (.bipush 119, 2) := by decide +kernel
theorem dX12_readLantern_100 : decode cX12_readLantern 100 = .ok (.if_icmp .ne 50, 3) := by decide +kernel
theorem dX12_readLantern_103 : decode cX12_readLantern 103 = .ok (.aload_n 0, 1) := by decide +kernel
theorem dX12_readLantern_104 : decode cX12_readLantern 104 = .ok (.getfield 229, 3) := by decide +kernel
theorem dX12_readLantern_107 : decode cX12_readLantern 107 = .ok (.iconst 4, 1) := by decide +kernel
theorem dX12_readLantern_108 : decode cX12_readLantern 108 = .ok (.if_icmp .ge 42, 3) := by decide +kernel
theorem dX12_readLantern_111 : decode cX12_readLantern 111 = .ok (.aload_n 0, 1) := by decide +kernel
theorem dX12_readLantern_112 : decode cX12_readLantern 112 = .ok (.dup, 1) := by decide +kernel
theorem dX12_readLantern_113 : decode cX12_readLantern 113 = .ok (.getfield 103, 3) := by decide +kernel
theorem dX12_readLantern_116 : decode cX12_readLantern 116 = .ok (.iconst 1, 1) := by decide +kernel
theorem dX12_readLantern_117 : decode cX12_readLantern 117 = .ok (.iadd, 1) := by decide +kernel
theorem dX12_readLantern_118 : decode cX12_readLantern 118 = .ok (.putfield 103, 3) := by decide +kernel
theorem dX12_readLantern_121 : decode cX12_readLantern 121 = .ok (.aload_n 0, 1) := by decide +kernel
theorem dX12_readLantern_122 : decode cX12_readLantern 122 = .ok (.iload_n 3, 1) := by decide +kernel
theorem dX12_readLantern_123 : decode cX12_readLantern 123 = .ok (.aload_n 0, 1) := by decide +kernel
theorem dX12_readLantern_124 : decode cX12_readLantern 124 = .ok (.getfield 43, 3) := by decide +kernel
theorem dX12_readLantern_127 : decode cX12_readLantern 127 = .ok (.iconst 4, 1) := by decide +kernel
theorem dX12_readLantern_128 : decode cX12_readLantern 128 = .ok (.aload_n 0, 1) := by decide +kernel
theorem dX12_readLantern_129 : decode cX12_readLantern 129 = .ok (.getfield 229, 3) := by decide +kernel
theorem dX12_readLantern_132 : decode cX12_readLantern 132 = .ok (.imul, 1) := by decide +kernel
theorem dX12_readLantern_133 : decode cX12_readLantern 133 = .ok (.iconst 4, 1) := by decide +kernel
theorem dX12_readLantern_134 : decode cX12_readLantern 134 = .ok (.invokevirtual 232, 3) := by decide +kernel
theorem dX12_readLantern_137 : decode cX12_readLantern 137 = .ok (.aload_n 0, 1) := by decide +kernel
theorem dX12_readLantern_138 : decode cX12_readLantern 138 = .ok (.dup, 1) := by decide +kernel
theorem dX12_readLantern_139 : decode cX12_readLantern 139 = .ok (.getfield 229, 3) := by decide +kernel
theorem dX12_readLantern_142 : decode cX12_readLantern 142 = .ok (.iconst 1, 1) := by decide +kernel
theorem dX12_readLantern_143 : decode cX12_readLantern 143 = .ok (.iadd, 1) := by decide +kernel
theorem dX12_readLantern_144 : decode cX12_readLantern 144 = .ok (.putfield 229, 3) := by decide +kernel
theorem dX12_readLantern_147 : decode cX12_readLantern 147 = .ok (.goto 7, 3) := by decide +kernel
theorem dX12_readLantern_150 : decode cX12_readLantern 150 = .ok (.aload_n 0, 1) := by decide +kernel
theorem dX12_readLantern_151 : decode cX12_readLantern 151 = .ok (.invokevirtual 119, 3) := by decide +kernel
theorem dX12_readLantern_154 : decode cX12_readLantern 154 = .ok (.aload_n 0, 1) := by decide +kernel
theorem dX12_readLantern_155 : decode cX12_readLantern 155 = .ok (.getfield 110, 3) := by decide +kernel
theorem dX12_readLantern_158 : decode cX12_readLantern 158 = .ok (.iconst (-1), 1) := by decide +kernel
theorem dX12_readLantern_159 : decode cX12_readLantern 159 = .ok (.if_icmp .ne 16, 3) := by decide +kernel
theorem dX12_readLantern_162 : decode cX12_readLantern 162 = .ok (.aload_n 0, 1) := by decide +kernel
theorem dX12_readLantern_163 : decode cX12_readLantern 163 = .ok (.invokevirtual 122, 3) := by decide +kernel
theorem dX12_readLantern_166 : decode cX12_readLantern 166 = .ok (.bipush 59, 2) := by decide +kernel
theorem dX12_readLantern_168 : decode cX12_readLantern 168 = .ok (.if_icmp .ne 7, 3) := by decide +kernel
theorem dX12_readLantern_171 : decode cX12_readLantern 171 = .ok (.iconst 1, 1) := by decide +kernel
theorem dX12_readLantern_172 : decode cX12_readLantern 172 = .ok (.goto 4, 3) := by decide +kernel
theorem dX12_readLantern_175 : decode cX12_readLantern 175 = .ok (.iconst 0, 1) := by decide +kernel
theorem dX12_readLantern_176 : decode cX12_readLantern 176 = .ok (.istore_n 2, 1) := by decide +kernel
theorem dX12_readLantern_177 : decode cX12_readLantern 177 = .ok (.aload_n 0, 1) := by decide +kernel
theorem dX12_readLantern_178 : decode cX12_readLantern 178 = .ok (.dup, 1) := by decide +kernel
theorem dX12_readLantern_179 : decode cX12_readLantern 179 = .ok (.getfield 103, 3) := by decide +kernel
theorem dX12_readLantern_182 : decode cX12_readLantern 182 = .ok (.iload_n 2, 1) := by decide +kernel
theorem dX12_readLantern_183 : decode cX12_readLantern 183 = .ok (.ifCond .eq 7, 3) := by decide +kernel
theorem dX12_readLantern_186 : decode cX12_readLantern 186 = .ok (.iconst 1, 1) := by decide +kernel
theorem dX12_readLantern_187 : decode cX12_readLantern 187 = .ok (.goto 4, 3) := by decide +kernel
theorem dX12_readLantern_190 : decode cX12_readLantern 190 = .ok (.iconst 0, 1) := by decide +kernel
theorem dX12_readLantern_191 : decode cX12_readLantern 191 = .ok (.iadd, 1) := by decide +kernel
theorem dX12_readLantern_192 : decode cX12_readLantern 192 = .ok (.putfield 103, 3) := by decide +kernel
theorem dX12_readLantern_195 : decode cX12_readLantern 195 = .ok (.goto (-151), 3) := by decide +kernel
theorem dX12_readLantern_198 : decode cX12_readLantern 198 = .ok (.aload_n 0, 1) := by decide +kernel
theorem dX12_readLantern_199 : decode cX12_readLantern 199 = .ok (.getfield 110, 3) := by decide +kernel
theorem dX12_readLantern_202 : decode cX12_readLantern 202 = .ok (.iconst (-1), 1) := by decide +kernel
theorem dX12_readLantern_203 : decode cX12_readLantern 203 = .ok (.if_icmp .ne 22, 3) := by decide +kernel
theorem dX12_readLantern_206 : decode cX12_readLantern 206 = .ok (.aload_n 0, 1) := by decide +kernel
theorem dX12_readLantern_207 : decode cX12_readLantern 207 = .ok (.invokevirtual 122, 3) := by decide +kernel
theorem dX12_readLantern_210 : decode cX12_readLantern 210 = .ok (.iconst (-1), 1) := by decide +kernel
theorem dX12_readLantern_211 : decode cX12_readLantern 211 = .ok (.if_icmp .ne 10, 3) := by decide +kernel
theorem dX12_readLantern_214 : decode cX12_readLantern 214 = .ok (.aload_n 0, 1) := by decide +kernel
theorem dX12_readLantern_215 : decode cX12_readLantern 215 = .ok (.getfield 229, 3) := by decide +kernel
theorem dX12_readLantern_218 : decode cX12_readLantern 218 = .ok (.ifCond .ne 7, 3) := by decide +kernel
theorem dX12_readLantern_221 : decode cX12_readLantern 221 = .ok (.aload_n 0, 1) := by decide +kernel
theorem dX12_readLantern_222 : decode cX12_readLantern 222 = .ok (.invokevirtual 119, 3) := by decide +kernel
theorem dX12_readLantern_225 : decode cX12_readLantern 225 = .ok (.aload_n 0, 1) := by decide +kernel
theorem dX12_readLantern_226 : decode cX12_readLantern 226 = .ok (.getfield 110, 3) := by decide +kernel
theorem dX12_readLantern_229 : decode cX12_readLantern 229 = .ok (.ireturn, 1) := by decide +kernel
theorem dX12_isPicture_0 : decode cX12_isPicture 0 = .ok (.iload_n 0, 1) := by decide +kernel
theorem dX12_isPicture_1 : decode cX12_isPicture 1 = .ok (.bipush 97, 2) := by decide +kernel
theorem dX12_isPicture_3 : decode cX12_isPicture 3 = .ok (.if_icmp .lt 9, 3) := by decide +kernel
theorem dX12_isPicture_6 : decode cX12_isPicture 6 = .ok (.iload_n 0, 1) := by decide +kernel
theorem dX12_isPicture_7 : decode cX12_isPicture 7 = .ok (.bipush 122, 2) := by decide +kernel
theorem dX12_isPicture_9 : decode cX12_isPicture 9 = .ok (.if_icmp .le 9, 3) := by decide +kernel
theorem dX12_isPicture_12 : decode cX12_isPicture 12 = .ok (.iload_n 0, 1) := by decide +kernel
theorem dX12_isPicture_13 : decode cX12_isPicture 13 = .ok (.bipush 46, 2) := by decide +kernel
theorem dX12_isPicture_15 : decode cX12_isPicture 15 = .ok (.if_icmp .ne 7, 3) := by decide +kernel
theorem dX12_isPicture_18 : decode cX12_isPicture 18 = .ok (.iconst 1, 1) := by decide +kernel
theorem dX12_isPicture_19 : decode cX12_isPicture 19 = .ok (.goto 4, 3) := by decide +kernel
theorem dX12_isPicture_22 : decode cX12_isPicture 22 = .ok (.iconst 0, 1) := by decide +kernel
theorem dX12_isPicture_23 : decode cX12_isPicture 23 = .ok (.ireturn, 1) := by decide +kernel
theorem dX12_readPicture_0 : decode cX12_readPicture 0 = .ok (.aload_n 0, 1) := by decide +kernel
theorem dX12_readPicture_1 : decode cX12_readPicture 1 = .ok (.invokevirtual 122, 3) := by decide +kernel
theorem dX12_readPicture_4 : decode cX12_readPicture 4 = .ok (.istore_n 3, 1) := by decide +kernel
theorem dX12_readPicture_5 : decode cX12_readPicture 5 = .ok (.iload_n 3, 1) := by decide +kernel
theorem dX12_readPicture_6 : decode cX12_readPicture 6 = .ok (.iconst (-1), 1) := by decide +kernel
theorem dX12_readPicture_7 : decode cX12_readPicture 7 = .ok (.if_icmp .eq 23, 3) := by decide +kernel
theorem dX12_readPicture_10 : decode cX12_readPicture 10 = .ok (.iload_n 3, 1) := by decide +kernel
theorem dX12_readPicture_11 : decode cX12_readPicture 11 = .ok (.invokestatic 236, 3) := by decide +kernel
theorem dX12_readPicture_14 : decode cX12_readPicture 14 = .ok (.ifCond .eq 16, 3) := by decide +kernel
theorem dX12_readPicture_17 : decode cX12_readPicture 17 = .ok (.aload_n 0, 1) := by decide +kernel
theorem dX12_readPicture_18 : decode cX12_readPicture 18 = .ok (.getfield 49, 3) := by decide +kernel
theorem dX12_readPicture_21 : decode cX12_readPicture 21 = .ok (.iload_n 1, 1) := by decide +kernel
theorem dX12_readPicture_22 : decode cX12_readPicture 22 = .ok (.iaload, 1) := by decide +kernel
theorem dX12_readPicture_23 : decode cX12_readPicture 23 = .ok (.iload_n 2, 1) := by decide +kernel
theorem dX12_readPicture_24 : decode cX12_readPicture 24 = .ok (.iadd, 1) := by decide +kernel
theorem dX12_readPicture_25 : decode cX12_readPicture 25 = .ok (.bipush 16, 2) := by decide +kernel
theorem dX12_readPicture_27 : decode cX12_readPicture 27 = .ok (.if_icmp .le 8, 3) := by decide +kernel
theorem dX12_readPicture_30 : decode cX12_readPicture 30 = .ok (.aload_n 0, 1) := by decide +kernel
theorem dX12_readPicture_31 : decode cX12_readPicture 31 = .ok (.invokevirtual 119, 3) := by decide +kernel
theorem dX12_readPicture_34 : decode cX12_readPicture 34 = .ok (.return_, 1) := by decide +kernel
theorem dX12_readPicture_35 : decode cX12_readPicture 35 = .ok (.iconst 0, 1) := by decide +kernel
theorem dX12_readPicture_36 : decode cX12_readPicture 36 = .ok (.istore 4, 2) := by decide +kernel
theorem dX12_readPicture_38 : decode cX12_readPicture 38 = .ok (.iload 4, 2) := by decide +kernel
theorem dX12_readPicture_40 : decode cX12_readPicture 40 = .ok (.iload_n 2, 1) := by decide +kernel
theorem dX12_readPicture_41 : decode cX12_readPicture 41 = .ok (.if_icmp .ge 50, 3) := by decide +kernel
theorem dX12_readPicture_44 : decode cX12_readPicture 44 = .ok (.aload_n 0, 1) := by decide +kernel
theorem dX12_readPicture_45 : decode cX12_readPicture 45 = .ok (.getfield 46, 3) := by decide +kernel
theorem dX12_readPicture_48 : decode cX12_readPicture 48 = .ok (.bipush 16, 2) := by decide +kernel
theorem dX12_readPicture_50 : decode cX12_readPicture 50 = .ok (.iload_n 1, 1) := by decide +kernel
theorem dX12_readPicture_51 : decode cX12_readPicture 51 = .ok (.imul, 1) := by decide +kernel
theorem dX12_readPicture_52 : decode cX12_readPicture 52 = .ok (.aload_n 0, 1) := by decide +kernel
theorem dX12_readPicture_53 : decode cX12_readPicture 53 = .ok (.getfield 49, 3) := by decide +kernel
theorem dX12_readPicture_56 : decode cX12_readPicture 56 = .ok (.iload_n 1, 1) := by decide +kernel
theorem dX12_readPicture_57 : decode cX12_readPicture 57 = .ok (.iaload, 1) := by decide +kernel
theorem dX12_readPicture_58 : decode cX12_readPicture 58 = .ok (.iadd, 1) := by decide +kernel
theorem dX12_readPicture_59 : decode cX12_readPicture 59 = .ok (.iload_n 3, 1) := by decide +kernel
theorem dX12_readPicture_60 : decode cX12_readPicture 60 = .ok (.bipush 46, 2) := by decide +kernel
theorem dX12_readPicture_62 : decode cX12_readPicture 62 = .ok (.if_icmp .ne 8, 3) := by decide +kernel
theorem dX12_readPicture_65 : decode cX12_readPicture 65 = .ok (.bipush 26, 2) := by decide +kernel
theorem dX12_readPicture_67 : decode cX12_readPicture 67 = .ok (.goto 7, 3) := by decide +kernel
theorem dX12_readPicture_70 : decode cX12_readPicture 70 = .ok (.iload_n 3, 1) := by decide +kernel
theorem dX12_readPicture_71 : decode cX12_readPicture 71 = .ok (.bipush 97, 2) := by decide +kernel
theorem dX12_readPicture_73 : decode cX12_readPicture 73 = .ok (.isub, 1) := by decide +kernel
theorem dX12_readPicture_74 : decode cX12_readPicture 74 = .ok (.iastore, 1) := by decide +kernel
theorem dX12_readPicture_75 : decode cX12_readPicture 75 = .ok (.aload_n 0, 1) := by decide +kernel
theorem dX12_readPicture_76 : decode cX12_readPicture 76 = .ok (.getfield 49, 3) := by decide +kernel
theorem dX12_readPicture_79 : decode cX12_readPicture 79 = .ok (.iload_n 1, 1) := by decide +kernel
theorem dX12_readPicture_80 : decode cX12_readPicture 80 = .ok (.dup2, 1) := by decide +kernel
theorem dX12_readPicture_81 : decode cX12_readPicture 81 = .ok (.iaload, 1) := by decide +kernel
theorem dX12_readPicture_82 : decode cX12_readPicture 82 = .ok (.iconst 1, 1) := by decide +kernel
theorem dX12_readPicture_83 : decode cX12_readPicture 83 = .ok (.iadd, 1) := by decide +kernel
theorem dX12_readPicture_84 : decode cX12_readPicture 84 = .ok (.iastore, 1) := by decide +kernel
theorem dX12_readPicture_85 : decode cX12_readPicture 85 = .ok (.iinc 4 1, 3) := by decide +kernel
theorem dX12_readPicture_88 : decode cX12_readPicture 88 = .ok (.goto (-50), 3) := by decide +kernel
theorem dX12_readPicture_91 : decode cX12_readPicture 91 = .ok (.aload_n 0, 1) := by decide +kernel
theorem dX12_readPicture_92 : decode cX12_readPicture 92 = .ok (.dup, 1) := by decide +kernel
theorem dX12_readPicture_93 : decode cX12_readPicture 93 = .ok (.getfield 103, 3) := by decide +kernel
theorem dX12_readPicture_96 : decode cX12_readPicture 96 = .ok (.iconst 1, 1) := by decide +kernel
theorem dX12_readPicture_97 : decode cX12_readPicture 97 = .ok (.iadd, 1) := by decide +kernel
theorem dX12_readPicture_98 : decode cX12_readPicture 98 = .ok (.putfield 103, 3) := by decide +kernel
theorem dX12_readPicture_101 : decode cX12_readPicture 101 = .ok (.return_, 1) := by decide +kernel
theorem dX12_readStrip_0 : decode cX12_readStrip 0 = .ok (.aload_n 0, 1) := by decide +kernel
theorem dX12_readStrip_1 : decode cX12_readStrip 1 = .ok (.iconst 0, 1) := by decide +kernel
theorem dX12_readStrip_2 : decode cX12_readStrip 2 = .ok (.putfield 103, 3) := by decide +kernel
theorem dX12_readStrip_5 : decode cX12_readStrip 5 = .ok (.aload_n 0, 1) := by decide +kernel
theorem dX12_readStrip_6 : decode cX12_readStrip 6 = .ok (.iconst (-1), 1) := by decide +kernel
theorem dX12_readStrip_7 : decode cX12_readStrip 7 = .ok (.putfield 110, 3) := by decide +kernel
theorem dX12_readStrip_10 : decode cX12_readStrip 10 = .ok (.aload_n 0, 1) := by decide +kernel
theorem dX12_readStrip_11 : decode cX12_readStrip 11 = .ok (.getfield 49, 3) := by decide +kernel
theorem dX12_readStrip_14 : decode cX12_readStrip 14 = .ok (.iload_n 1, 1) := by decide +kernel
theorem dX12_readStrip_15 : decode cX12_readStrip 15 = .ok (.iconst 0, 1) := by decide +kernel
theorem dX12_readStrip_16 : decode cX12_readStrip 16 = .ok (.iastore, 1) := by decide +kernel
theorem dX12_readStrip_17 : decode cX12_readStrip 17 = .ok (.aload_n 0, 1) := by decide +kernel
theorem dX12_readStrip_18 : decode cX12_readStrip 18 = .ok (.getfield 110, 3) := by decide +kernel
theorem dX12_readStrip_21 : decode cX12_readStrip 21 = .ok (.iconst (-1), 1) := by decide +kernel
theorem dX12_readStrip_22 : decode cX12_readStrip 22 = .ok (.if_icmp .ne 60, 3) := by decide +kernel
theorem dX12_readStrip_25 : decode cX12_readStrip 25 = .ok (.aload_n 0, 1) := by decide +kernel
theorem dX12_readStrip_26 : decode cX12_readStrip 26 = .ok (.invokevirtual 122, 3) := by decide +kernel
theorem dX12_readStrip_29 : decode cX12_readStrip 29 = .ok (.iconst (-1), 1) := by decide +kernel
theorem dX12_readStrip_30 : decode cX12_readStrip 30 = .ok (.if_icmp .eq 52, 3) := by decide +kernel
theorem dX12_readStrip_33 : decode cX12_readStrip 33 = .ok (.aload_n 0, 1) := by decide +kernel
theorem dX12_readStrip_34 : decode cX12_readStrip 34 = .ok (.invokevirtual 122, 3) := by decide +kernel
theorem dX12_readStrip_37 : decode cX12_readStrip 37 = .ok (.istore_n 2, 1) := by decide +kernel
theorem dX12_readStrip_38 : decode cX12_readStrip 38 = .ok (.iload_n 2, 1) := by decide +kernel
theorem dX12_readStrip_39 : decode cX12_readStrip 39 = .ok (.invokestatic 125, 3) := by decide +kernel
theorem dX12_readStrip_42 : decode cX12_readStrip 42 = .ok (.ifCond .eq 31, 3) := by decide +kernel
theorem dX12_readStrip_45 : decode cX12_readStrip 45 = .ok (.iload_n 2, 1) := by decide +kernel
theorem dX12_readStrip_46 : decode cX12_readStrip 46 = .ok (.bipush 50, 2) := by decide +kernel
theorem dX12_readStrip_48 : decode cX12_readStrip 48 = .ok (.if_icmp .lt 25, 3) := by decide +kernel
theorem dX12_readStrip_51 : decode cX12_readStrip 51 = .ok (.aload_n 0, 1) := by decide +kernel
theorem dX12_readStrip_52 : decode cX12_readStrip 52 = .ok (.dup, 1) := by decide +kernel
theorem dX12_readStrip_53 : decode cX12_readStrip 53 = .ok (.getfield 103, 3) := by decide +kernel
theorem dX12_readStrip_56 : decode cX12_readStrip 56 = .ok (.iconst 1, 1) := by decide +kernel
theorem dX12_readStrip_57 : decode cX12_readStrip 57 = .ok (.iadd, 1) := by decide +kernel
theorem dX12_readStrip_58 : decode cX12_readStrip 58 = .ok (.putfield 103, 3) := by decide +kernel
theorem dX12_readStrip_61 : decode cX12_readStrip 61 = .ok (.aload_n 0, 1) := by decide +kernel
theorem dX12_readStrip_62 : decode cX12_readStrip 62 = .ok (.iload_n 1, 1) := by decide +kernel
theorem dX12_readStrip_63 : decode cX12_readStrip 63 = .ok (.iload_n 2, 1) := by decide +kernel
theorem dX12_readStrip_64 : decode cX12_readStrip 64 = .ok (.bipush 48, 2) := by decide +kernel
theorem dX12_readStrip_66 : decode cX12_readStrip 66 = .ok (.isub, 1) := by decide +kernel
theorem dX12_readStrip_67 : decode cX12_readStrip 67 = .ok (.invokevirtual 239, 3) := by decide +kernel
theorem dX12_readStrip_70 : decode cX12_readStrip 70 = .ok (.goto 9, 3) := by decide +kernel
theorem dX12_readStrip_73 : decode cX12_readStrip 73 = .ok (.aload_n 0, 1) := by decide +kernel
theorem dX12_readStrip_74 : decode cX12_readStrip 74 = .ok (.iload_n 1, 1) := by decide +kernel
theorem dX12_readStrip_75 : decode cX12_readStrip 75 = .ok (.iconst 1, 1) := by decide +kernel
theorem dX12_readStrip_76 : decode cX12_readStrip 76 = .ok (.invokevirtual 239, 3) := by decide +kernel
theorem dX12_readStrip_79 : decode cX12_readStrip 79 = .ok (.goto (-62), 3) := by decide +kernel
theorem dX12_readStrip_82 : decode cX12_readStrip 82 = .ok (.aload_n 0, 1) := by decide +kernel
theorem dX12_readStrip_83 : decode cX12_readStrip 83 = .ok (.getfield 110, 3) := by decide +kernel
theorem dX12_readStrip_86 : decode cX12_readStrip 86 = .ok (.iconst (-1), 1) := by decide +kernel
theorem dX12_readStrip_87 : decode cX12_readStrip 87 = .ok (.if_icmp .ne 16, 3) := by decide +kernel
theorem dX12_readStrip_90 : decode cX12_readStrip 90 = .ok (.aload_n 0, 1) := by decide +kernel
theorem dX12_readStrip_91 : decode cX12_readStrip 91 = .ok (.getfield 49, 3) := by decide +kernel
theorem dX12_readStrip_94 : decode cX12_readStrip 94 = .ok (.iload_n 1, 1) := by decide +kernel
theorem dX12_readStrip_95 : decode cX12_readStrip 95 = .ok (.iaload, 1) := by decide +kernel
theorem dX12_readStrip_96 : decode cX12_readStrip 96 = .ok (.ifCond .ne 7, 3) := by decide +kernel
theorem dX12_readStrip_99 : decode cX12_readStrip 99 = .ok (.aload_n 0, 1) := by decide +kernel
theorem dX12_readStrip_100 : decode cX12_readStrip 100 = .ok (.invokevirtual 119, 3) := by decide +kernel
theorem dX12_readStrip_103 : decode cX12_readStrip 103 = .ok (.aload_n 0, 1) := by decide +kernel
theorem dX12_readStrip_104 : decode cX12_readStrip 104 = .ok (.getfield 110, 3) := by decide +kernel
theorem dX12_readStrip_107 : decode cX12_readStrip 107 = .ok (.ireturn, 1) := by decide +kernel
theorem dX12_fault_0 : decode cX12_fault 0 = .ok (.iload_n 1, 1) := by decide +kernel
theorem dX12_fault_1 : decode cX12_fault 1 = .ok (.ifCond .ne 10, 3) := by decide +kernel
theorem dX12_fault_4 : decode cX12_fault 4 = .ok (.aload_n 0, 1) := by decide +kernel
theorem dX12_fault_5 : decode cX12_fault 5 = .ok (.invokevirtual 242, 3) := by decide +kernel
theorem dX12_fault_8 : decode cX12_fault 8 = .ok (.goto 32, 3) := by decide +kernel
theorem dX12_fault_11 : decode cX12_fault 11 = .ok (.iload_n 1, 1) := by decide +kernel
theorem dX12_fault_12 : decode cX12_fault 12 = .ok (.iconst 1, 1) := by decide +kernel
theorem dX12_fault_13 : decode cX12_fault 13 = .ok (.if_icmp .ne 11, 3) := by decide +kernel
theorem dX12_fault_16 : decode cX12_fault 16 = .ok (.aload_n 0, 1) := by decide +kernel
theorem dX12_fault_17 : decode cX12_fault 17 = .ok (.iconst 4, 1) := by decide +kernel
theorem dX12_fault_18 : decode cX12_fault 18 = .ok (.invokevirtual 245, 3) := by decide +kernel
theorem dX12_fault_21 : decode cX12_fault 21 = .ok (.goto 19, 3) := by decide +kernel
theorem dX12_fault_24 : decode cX12_fault 24 = .ok (.iload_n 1, 1) := by decide +kernel
theorem dX12_fault_25 : decode cX12_fault 25 = .ok (.iconst 2, 1) := by decide +kernel
theorem dX12_fault_26 : decode cX12_fault 26 = .ok (.if_icmp .ne 12, 3) := by decide +kernel
theorem dX12_fault_29 : decode cX12_fault 29 = .ok (.aload_n 0, 1) := by decide +kernel
theorem dX12_fault_30 : decode cX12_fault 30 = .ok (.bipush 6, 2) := by decide +kernel
theorem dX12_fault_32 : decode cX12_fault 32 = .ok (.invokevirtual 248, 3) := by decide +kernel
theorem dX12_fault_35 : decode cX12_fault 35 = .ok (.goto 5, 3) := by decide +kernel
theorem dX12_fault_38 : decode cX12_fault 38 = .ok (.bipush (-2), 2) := by decide +kernel
theorem dX12_fault_40 : decode cX12_fault 40 = .ok (.ireturn, 1) := by decide +kernel
theorem dX12_of_0 : decode cX12_of 0 = .ok (.aload_n 0, 1) := by decide +kernel
theorem dX12_of_1 : decode cX12_of 1 = .ok (.getfield 52, 3) := by decide +kernel
theorem dX12_of_4 : decode cX12_of 4 = .ok (.iconst 4, 1) := by decide +kernel
theorem dX12_of_5 : decode cX12_of 5 = .ok (.iload_n 1, 1) := by decide +kernel
theorem dX12_of_6 : decode cX12_of 6 = .ok (.imul, 1) := by decide +kernel
theorem dX12_of_7 : decode cX12_of 7 = .ok (.iload_n 2, 1) := by decide +kernel
theorem dX12_of_8 : decode cX12_of 8 = .ok (.iadd, 1) := by decide +kernel
theorem dX12_of_9 : decode cX12_of 9 = .ok (.iaload, 1) := by decide +kernel
theorem dX12_of_10 : decode cX12_of 10 = .ok (.ireturn, 1) := by decide +kernel
theorem dX12_stripLongOf_0 : decode cX12_stripLongOf 0 = .ok (.iload_n 1, 1) := by decide +kernel
theorem dX12_stripLongOf_1 : decode cX12_stripLongOf 1 = .ok (.aload_n 0, 1) := by decide +kernel
theorem dX12_stripLongOf_2 : decode cX12_stripLongOf 2 = .ok (.getfield 251, 3) := by decide +kernel
theorem dX12_stripLongOf_5 : decode cX12_stripLongOf 5 = .ok (.if_icmp .ge 12, 3) := by decide +kernel
theorem dX12_stripLongOf_8 : decode cX12_stripLongOf 8 = .ok (.aload_n 0, 1) := by decide +kernel
theorem dX12_stripLongOf_9 : decode cX12_stripLongOf 9 = .ok (.getfield 49, 3) := by decide +kernel
theorem dX12_stripLongOf_12 : decode cX12_stripLongOf 12 = .ok (.iload_n 1, 1) := by decide +kernel
theorem dX12_stripLongOf_13 : decode cX12_stripLongOf 13 = .ok (.iaload, 1) := by decide +kernel
theorem dX12_stripLongOf_14 : decode cX12_stripLongOf 14 = .ok (.goto 4, 3) := by decide +kernel
theorem dX12_stripLongOf_17 : decode cX12_stripLongOf 17 = .ok (.iconst 1, 1) := by decide +kernel
theorem dX12_stripLongOf_18 : decode cX12_stripLongOf 18 = .ok (.ireturn, 1) := by decide +kernel
theorem dX12_longOf_0 : decode cX12_longOf 0 = .ok (.aload_n 0, 1) := by decide +kernel
theorem dX12_longOf_1 : decode cX12_longOf 1 = .ok (.aload_n 0, 1) := by decide +kernel
theorem dX12_longOf_2 : decode cX12_longOf 2 = .ok (.iload_n 1, 1) := by decide +kernel
theorem dX12_longOf_3 : decode cX12_longOf 3 = .ok (.iconst 3, 1) := by decide +kernel
theorem dX12_longOf_4 : decode cX12_longOf 4 = .ok (.invokevirtual 254, 3) := by decide +kernel
theorem dX12_longOf_7 : decode cX12_longOf 7 = .ok (.invokevirtual 257, 3) := by decide +kernel
theorem dX12_longOf_10 : decode cX12_longOf 10 = .ok (.ireturn, 1) := by decide +kernel
theorem dX12_pictureAt_0 : decode cX12_pictureAt 0 = .ok (.iload_n 1, 1) := by decide +kernel
theorem dX12_pictureAt_1 : decode cX12_pictureAt 1 = .ok (.aload_n 0, 1) := by decide +kernel
theorem dX12_pictureAt_2 : decode cX12_pictureAt 2 = .ok (.getfield 251, 3) := by decide +kernel
theorem dX12_pictureAt_5 : decode cX12_pictureAt 5 = .ok (.if_icmp .ge 17, 3) := by decide +kernel
theorem dX12_pictureAt_8 : decode cX12_pictureAt 8 = .ok (.aload_n 0, 1) := by decide +kernel
theorem dX12_pictureAt_9 : decode cX12_pictureAt 9 = .ok (.getfield 46, 3) := by decide +kernel
theorem dX12_pictureAt_12 : decode cX12_pictureAt 12 = .ok (.bipush 16, 2) := by decide +kernel
theorem dX12_pictureAt_14 : decode cX12_pictureAt 14 = .ok (.iload_n 1, 1) := by decide +kernel
theorem dX12_pictureAt_15 : decode cX12_pictureAt 15 = .ok (.imul, 1) := by decide +kernel
theorem dX12_pictureAt_16 : decode cX12_pictureAt 16 = .ok (.iload_n 2, 1) := by decide +kernel
theorem dX12_pictureAt_17 : decode cX12_pictureAt 17 = .ok (.iadd, 1) := by decide +kernel
theorem dX12_pictureAt_18 : decode cX12_pictureAt 18 = .ok (.iaload, 1) := by decide +kernel
theorem dX12_pictureAt_19 : decode cX12_pictureAt 19 = .ok (.goto 5, 3) := by decide +kernel
theorem dX12_pictureAt_22 : decode cX12_pictureAt 22 = .ok (.bipush 26, 2) := by decide +kernel
theorem dX12_pictureAt_24 : decode cX12_pictureAt 24 = .ok (.ireturn, 1) := by decide +kernel
theorem dX12_showsOf_0 : decode cX12_showsOf 0 = .ok (.aload_n 0, 1) := by decide +kernel
theorem dX12_showsOf_1 : decode cX12_showsOf 1 = .ok (.aload_n 0, 1) := by decide +kernel
theorem dX12_showsOf_2 : decode cX12_showsOf 2 = .ok (.iload_n 1, 1) := by decide +kernel
theorem dX12_showsOf_3 : decode cX12_showsOf 3 = .ok (.iconst 3, 1) := by decide +kernel
theorem dX12_showsOf_4 : decode cX12_showsOf 4 = .ok (.invokevirtual 254, 3) := by decide +kernel
theorem dX12_showsOf_7 : decode cX12_showsOf 7 = .ok (.aload_n 0, 1) := by decide +kernel
theorem dX12_showsOf_8 : decode cX12_showsOf 8 = .ok (.iload_n 1, 1) := by decide +kernel
theorem dX12_showsOf_9 : decode cX12_showsOf 9 = .ok (.iconst 2, 1) := by decide +kernel
theorem dX12_showsOf_10 : decode cX12_showsOf 10 = .ok (.invokevirtual 254, 3) := by decide +kernel
theorem dX12_showsOf_13 : decode cX12_showsOf 13 = .ok (.invokevirtual 260, 3) := by decide +kernel
theorem dX12_showsOf_16 : decode cX12_showsOf 16 = .ok (.ireturn, 1) := by decide +kernel
theorem dX12_takeLantern_0 : decode cX12_takeLantern 0 = .ok (.aload_n 0, 1) := by decide +kernel
theorem dX12_takeLantern_1 : decode cX12_takeLantern 1 = .ok (.aload_n 0, 1) := by decide +kernel
theorem dX12_takeLantern_2 : decode cX12_takeLantern 2 = .ok (.getfield 229, 3) := by decide +kernel
theorem dX12_takeLantern_5 : decode cX12_takeLantern 5 = .ok (.putfield 263, 3) := by decide +kernel
theorem dX12_takeLantern_8 : decode cX12_takeLantern 8 = .ok (.iconst 0, 1) := by decide +kernel
theorem dX12_takeLantern_9 : decode cX12_takeLantern 9 = .ok (.istore_n 1, 1) := by decide +kernel
theorem dX12_takeLantern_10 : decode cX12_takeLantern 10 = .ok (.iload_n 1, 1) := by decide +kernel
theorem dX12_takeLantern_11 : decode cX12_takeLantern 11 = .ok (.sipush 261, 3) := by decide +kernel
theorem dX12_takeLantern_14 : decode cX12_takeLantern 14 = .ok (.if_icmp .ge 16, 3) := by decide +kernel
theorem dX12_takeLantern_17 : decode cX12_takeLantern 17 = .ok (.aload_n 0, 1) := by decide +kernel
theorem dX12_takeLantern_18 : decode cX12_takeLantern 18 = .ok (.getfield 52, 3) := by decide +kernel
theorem dX12_takeLantern_21 : decode cX12_takeLantern 21 = .ok (.iload_n 1, 1) := by decide +kernel
theorem dX12_takeLantern_22 : decode cX12_takeLantern 22 = .ok (.iconst 0, 1) := by decide +kernel
theorem dX12_takeLantern_23 : decode cX12_takeLantern 23 = .ok (.iastore, 1) := by decide +kernel
theorem dX12_takeLantern_24 : decode cX12_takeLantern 24 = .ok (.iinc 1 1, 3) := by decide +kernel
theorem dX12_takeLantern_27 : decode cX12_takeLantern 27 = .ok (.goto (-17), 3) := by decide +kernel
theorem dX12_takeLantern_30 : decode cX12_takeLantern 30 = .ok (.iconst 0, 1) := by decide +kernel
theorem dX12_takeLantern_31 : decode cX12_takeLantern 31 = .ok (.istore_n 1, 1) := by decide +kernel
theorem dX12_takeLantern_32 : decode cX12_takeLantern 32 = .ok (.iload_n 1, 1) := by decide +kernel
theorem dX12_takeLantern_33 : decode cX12_takeLantern 33 = .ok (.iconst 4, 1) := by decide +kernel
theorem dX12_takeLantern_34 : decode cX12_takeLantern 34 = .ok (.aload_n 0, 1) := by decide +kernel
theorem dX12_takeLantern_35 : decode cX12_takeLantern 35 = .ok (.getfield 263, 3) := by decide +kernel
theorem dX12_takeLantern_38 : decode cX12_takeLantern 38 = .ok (.imul, 1) := by decide +kernel
theorem dX12_takeLantern_39 : decode cX12_takeLantern 39 = .ok (.if_icmp .ge 21, 3) := by decide +kernel
theorem dX12_takeLantern_42 : decode cX12_takeLantern 42 = .ok (.aload_n 0, 1) := by decide +kernel
theorem dX12_takeLantern_43 : decode cX12_takeLantern 43 = .ok (.getfield 52, 3) := by decide +kernel
theorem dX12_takeLantern_46 : decode cX12_takeLantern 46 = .ok (.iload_n 1, 1) := by decide +kernel
theorem dX12_takeLantern_47 : decode cX12_takeLantern 47 = .ok (.aload_n 0, 1) := by decide +kernel
theorem dX12_takeLantern_48 : decode cX12_takeLantern 48 = .ok (.getfield 43, 3) := by decide +kernel
theorem dX12_takeLantern_51 : decode cX12_takeLantern 51 = .ok (.iload_n 1, 1) := by decide +kernel
theorem dX12_takeLantern_52 : decode cX12_takeLantern 52 = .ok (.iaload, 1) := by decide +kernel
theorem dX12_takeLantern_53 : decode cX12_takeLantern 53 = .ok (.iastore, 1) := by decide +kernel
theorem dX12_takeLantern_54 : decode cX12_takeLantern 54 = .ok (.iinc 1 1, 3) := by decide +kernel
theorem dX12_takeLantern_57 : decode cX12_takeLantern 57 = .ok (.goto (-25), 3) := by decide +kernel
theorem dX12_takeLantern_60 : decode cX12_takeLantern 60 = .ok (.iconst 0, 1) := by decide +kernel
theorem dX12_takeLantern_61 : decode cX12_takeLantern 61 = .ok (.istore_n 1, 1) := by decide +kernel
theorem dX12_takeLantern_62 : decode cX12_takeLantern 62 = .ok (.iload_n 1, 1) := by decide +kernel
theorem dX12_takeLantern_63 : decode cX12_takeLantern 63 = .ok (.aload_n 0, 1) := by decide +kernel
theorem dX12_takeLantern_64 : decode cX12_takeLantern 64 = .ok (.getfield 263, 3) := by decide +kernel
theorem dX12_takeLantern_67 : decode cX12_takeLantern 67 = .ok (.if_icmp .ge 31, 3) := by decide +kernel
theorem dX12_takeLantern_70 : decode cX12_takeLantern 70 = .ok (.aload_n 0, 1) := by decide +kernel
theorem dX12_takeLantern_71 : decode cX12_takeLantern 71 = .ok (.getfield 52, 3) := by decide +kernel
theorem dX12_takeLantern_74 : decode cX12_takeLantern 74 = .ok (.iconst 4, 1) := by decide +kernel
theorem dX12_takeLantern_75 : decode cX12_takeLantern 75 = .ok (.iload_n 1, 1) := by decide +kernel
theorem dX12_takeLantern_76 : decode cX12_takeLantern 76 = .ok (.imul, 1) := by decide +kernel
theorem dX12_takeLantern_77 : decode cX12_takeLantern 77 = .ok (.iconst 2, 1) := by decide +kernel
theorem dX12_takeLantern_78 : decode cX12_takeLantern 78 = .ok (.iadd, 1) := by decide +kernel
theorem dX12_takeLantern_79 : decode cX12_takeLantern 79 = .ok (.aload_n 0, 1) := by decide +kernel
theorem dX12_takeLantern_80 : decode cX12_takeLantern 80 = .ok (.iload_n 1, 1) := by decide +kernel
theorem dX12_takeLantern_81 : decode cX12_takeLantern 81 = .ok (.iconst 2, 1) := by decide +kernel
theorem dX12_takeLantern_82 : decode cX12_takeLantern 82 = .ok (.invokevirtual 254, 3) := by decide +kernel
theorem dX12_takeLantern_85 : decode cX12_takeLantern 85 = .ok (.aload_n 0, 1) := by decide +kernel
theorem dX12_takeLantern_86 : decode cX12_takeLantern 86 = .ok (.iload_n 1, 1) := by decide +kernel
theorem dX12_takeLantern_87 : decode cX12_takeLantern 87 = .ok (.invokevirtual 266, 3) := by decide +kernel
theorem dX12_takeLantern_90 : decode cX12_takeLantern 90 = .ok (.irem, 1) := by decide +kernel
theorem dX12_takeLantern_91 : decode cX12_takeLantern 91 = .ok (.iastore, 1) := by decide +kernel
theorem dX12_takeLantern_92 : decode cX12_takeLantern 92 = .ok (.iinc 1 1, 3) := by decide +kernel
theorem dX12_takeLantern_95 : decode cX12_takeLantern 95 = .ok (.goto (-33), 3) := by decide +kernel
theorem dX12_takeLantern_98 : decode cX12_takeLantern 98 = .ok (.aload_n 0, 1) := by decide +kernel
theorem dX12_takeLantern_99 : decode cX12_takeLantern 99 = .ok (.getfield 52, 3) := by decide +kernel
theorem dX12_takeLantern_102 : decode cX12_takeLantern 102 = .ok (.bipush 16, 2) := by decide +kernel
theorem dX12_takeLantern_104 : decode cX12_takeLantern 104 = .ok (.aload_n 0, 1) := by decide +kernel
theorem dX12_takeLantern_105 : decode cX12_takeLantern 105 = .ok (.getfield 40, 3) := by decide +kernel
theorem dX12_takeLantern_108 : decode cX12_takeLantern 108 = .ok (.iconst 0, 1) := by decide +kernel
theorem dX12_takeLantern_109 : decode cX12_takeLantern 109 = .ok (.iaload, 1) := by decide +kernel
theorem dX12_takeLantern_110 : decode cX12_takeLantern 110 = .ok (.iastore, 1) := by decide +kernel
theorem dX12_takeLantern_111 : decode cX12_takeLantern 111 = .ok (.aload_n 0, 1) := by decide +kernel
theorem dX12_takeLantern_112 : decode cX12_takeLantern 112 = .ok (.getfield 52, 3) := by decide +kernel
theorem dX12_takeLantern_115 : decode cX12_takeLantern 115 = .ok (.bipush 17, 2) := by decide +kernel
theorem dX12_takeLantern_117 : decode cX12_takeLantern 117 = .ok (.aload_n 0, 1) := by decide +kernel
theorem dX12_takeLantern_118 : decode cX12_takeLantern 118 = .ok (.getfield 40, 3) := by decide +kernel
theorem dX12_takeLantern_121 : decode cX12_takeLantern 121 = .ok (.iconst 1, 1) := by decide +kernel
theorem dX12_takeLantern_122 : decode cX12_takeLantern 122 = .ok (.iaload, 1) := by decide +kernel
theorem dX12_takeLantern_123 : decode cX12_takeLantern 123 = .ok (.iastore, 1) := by decide +kernel
theorem dX12_takeLantern_124 : decode cX12_takeLantern 124 = .ok (.aload_n 0, 1) := by decide +kernel
theorem dX12_takeLantern_125 : decode cX12_takeLantern 125 = .ok (.getfield 52, 3) := by decide +kernel
theorem dX12_takeLantern_128 : decode cX12_takeLantern 128 = .ok (.bipush 18, 2) := by decide +kernel
theorem dX12_takeLantern_130 : decode cX12_takeLantern 130 = .ok (.aload_n 0, 1) := by decide +kernel
theorem dX12_takeLantern_131 : decode cX12_takeLantern 131 = .ok (.getfield 40, 3) := by decide +kernel
theorem dX12_takeLantern_134 : decode cX12_takeLantern 134 = .ok (.iconst 2, 1) := by decide +kernel
theorem dX12_takeLantern_135 : decode cX12_takeLantern 135 = .ok (.iaload, 1) := by decide +kernel
theorem dX12_takeLantern_136 : decode cX12_takeLantern 136 = .ok (.iastore, 1) := by decide +kernel
theorem dX12_takeLantern_137 : decode cX12_takeLantern 137 = .ok (.aload_n 0, 1) := by decide +kernel
theorem dX12_takeLantern_138 : decode cX12_takeLantern 138 = .ok (.iconst 0, 1) := by decide +kernel
theorem dX12_takeLantern_139 : decode cX12_takeLantern 139 = .ok (.putfield 269, 3) := by decide +kernel
theorem dX12_takeLantern_142 : decode cX12_takeLantern 142 = .ok (.aload_n 0, 1) := by decide +kernel
theorem dX12_takeLantern_143 : decode cX12_takeLantern 143 = .ok (.iconst 0, 1) := by decide +kernel
theorem dX12_takeLantern_144 : decode cX12_takeLantern 144 = .ok (.putfield 272, 3) := by decide +kernel
theorem dX12_takeLantern_147 : decode cX12_takeLantern 147 = .ok (.aload_n 0, 1) := by decide +kernel
theorem dX12_takeLantern_148 : decode cX12_takeLantern 148 = .ok (.iconst 0, 1) := by decide +kernel
theorem dX12_takeLantern_149 : decode cX12_takeLantern 149 = .ok (.putfield 275, 3) := by decide +kernel
theorem dX12_takeLantern_152 : decode cX12_takeLantern 152 = .ok (.aload_n 0, 1) := by decide +kernel
theorem dX12_takeLantern_153 : decode cX12_takeLantern 153 = .ok (.getfield 263, 3) := by decide +kernel
theorem dX12_takeLantern_156 : decode cX12_takeLantern 156 = .ok (.ireturn, 1) := by decide +kernel
theorem dX12_text_0 : decode cX12_text 0 = .ok (.iload_n 1, 1) := by decide +kernel
theorem dX12_text_1 : decode cX12_text 1 = .ok (.ifCond .ne 21, 3) := by decide +kernel
theorem dX12_text_4 : decode cX12_text 4 = .ok (.aload_n 0, 1) := by decide +kernel
theorem dX12_text_5 : decode cX12_text 5 = .ok (.invokevirtual 242, 3) := by decide +kernel
theorem dX12_text_8 : decode cX12_text 8 = .ok (.iconst (-1), 1) := by decide +kernel
theorem dX12_text_9 : decode cX12_text 9 = .ok (.if_icmp .ne 13, 3) := by decide +kernel
theorem dX12_text_12 : decode cX12_text 12 = .ok (.aload_n 0, 1) := by decide +kernel
theorem dX12_text_13 : decode cX12_text 13 = .ok (.iconst 0, 1) := by decide +kernel
theorem dX12_text_14 : decode cX12_text 14 = .ok (.putfield 100, 3) := by decide +kernel
theorem dX12_text_17 : decode cX12_text 17 = .ok (.aload_n 0, 1) := by decide +kernel
theorem dX12_text_18 : decode cX12_text 18 = .ok (.invokevirtual 279, 3) := by decide +kernel
theorem dX12_text_21 : decode cX12_text 21 = .ok (.ireturn, 1) := by decide +kernel
theorem dX12_text_22 : decode cX12_text 22 = .ok (.iload_n 1, 1) := by decide +kernel
theorem dX12_text_23 : decode cX12_text 23 = .ok (.iconst 1, 1) := by decide +kernel
theorem dX12_text_24 : decode cX12_text 24 = .ok (.if_icmp .ne 45, 3) := by decide +kernel
theorem dX12_text_27 : decode cX12_text 27 = .ok (.aload_n 0, 1) := by decide +kernel
theorem dX12_text_28 : decode cX12_text 28 = .ok (.getfield 282, 3) := by decide +kernel
theorem dX12_text_31 : decode cX12_text 31 = .ok (.iconst 4, 1) := by decide +kernel
theorem dX12_text_32 : decode cX12_text 32 = .ok (.if_icmp .ge 37, 3) := by decide +kernel
theorem dX12_text_35 : decode cX12_text 35 = .ok (.aload_n 0, 1) := by decide +kernel
theorem dX12_text_36 : decode cX12_text 36 = .ok (.aload_n 0, 1) := by decide +kernel
theorem dX12_text_37 : decode cX12_text 37 = .ok (.getfield 282, 3) := by decide +kernel
theorem dX12_text_40 : decode cX12_text 40 = .ok (.invokevirtual 245, 3) := by decide +kernel
theorem dX12_text_43 : decode cX12_text 43 = .ok (.iconst (-1), 1) := by decide +kernel
theorem dX12_text_44 : decode cX12_text 44 = .ok (.if_icmp .ne 25, 3) := by decide +kernel
theorem dX12_text_47 : decode cX12_text 47 = .ok (.aload_n 0, 1) := by decide +kernel
theorem dX12_text_48 : decode cX12_text 48 = .ok (.iconst 0, 1) := by decide +kernel
theorem dX12_text_49 : decode cX12_text 49 = .ok (.putfield 100, 3) := by decide +kernel
theorem dX12_text_52 : decode cX12_text 52 = .ok (.aload_n 0, 1) := by decide +kernel
theorem dX12_text_53 : decode cX12_text 53 = .ok (.dup, 1) := by decide +kernel
theorem dX12_text_54 : decode cX12_text 54 = .ok (.getfield 282, 3) := by decide +kernel
theorem dX12_text_57 : decode cX12_text 57 = .ok (.iconst 1, 1) := by decide +kernel
theorem dX12_text_58 : decode cX12_text 58 = .ok (.iadd, 1) := by decide +kernel
theorem dX12_text_59 : decode cX12_text 59 = .ok (.putfield 282, 3) := by decide +kernel
theorem dX12_text_62 : decode cX12_text 62 = .ok (.aload_n 0, 1) := by decide +kernel
theorem dX12_text_63 : decode cX12_text 63 = .ok (.getfield 282, 3) := by decide +kernel
theorem dX12_text_66 : decode cX12_text 66 = .ok (.iconst 1, 1) := by decide +kernel
theorem dX12_text_67 : decode cX12_text 67 = .ok (.isub, 1) := by decide +kernel
theorem dX12_text_68 : decode cX12_text 68 = .ok (.ireturn, 1) := by decide +kernel
theorem dX12_text_69 : decode cX12_text 69 = .ok (.iload_n 1, 1) := by decide +kernel
theorem dX12_text_70 : decode cX12_text 70 = .ok (.iconst 2, 1) := by decide +kernel
theorem dX12_text_71 : decode cX12_text 71 = .ok (.if_icmp .ne 46, 3) := by decide +kernel
theorem dX12_text_74 : decode cX12_text 74 = .ok (.aload_n 0, 1) := by decide +kernel
theorem dX12_text_75 : decode cX12_text 75 = .ok (.getfield 251, 3) := by decide +kernel
theorem dX12_text_78 : decode cX12_text 78 = .ok (.bipush 6, 2) := by decide +kernel
theorem dX12_text_80 : decode cX12_text 80 = .ok (.if_icmp .ge 37, 3) := by decide +kernel
theorem dX12_text_83 : decode cX12_text 83 = .ok (.aload_n 0, 1) := by decide +kernel
theorem dX12_text_84 : decode cX12_text 84 = .ok (.aload_n 0, 1) := by decide +kernel
theorem dX12_text_85 : decode cX12_text 85 = .ok (.getfield 251, 3) := by decide +kernel
theorem dX12_text_88 : decode cX12_text 88 = .ok (.invokevirtual 248, 3) := by decide +kernel
theorem dX12_text_91 : decode cX12_text 91 = .ok (.iconst (-1), 1) := by decide +kernel
theorem dX12_text_92 : decode cX12_text 92 = .ok (.if_icmp .ne 25, 3) := by decide +kernel
theorem dX12_text_95 : decode cX12_text 95 = .ok (.aload_n 0, 1) := by decide +kernel
theorem dX12_text_96 : decode cX12_text 96 = .ok (.iconst 0, 1) := by decide +kernel
theorem dX12_text_97 : decode cX12_text 97 = .ok (.putfield 100, 3) := by decide +kernel
theorem dX12_text_100 : decode cX12_text 100 = .ok (.aload_n 0, 1) := by decide +kernel
theorem dX12_text_101 : decode cX12_text 101 = .ok (.dup, 1) := by decide +kernel
theorem dX12_text_102 : decode cX12_text 102 = .ok (.getfield 251, 3) := by decide +kernel
theorem dX12_text_105 : decode cX12_text 105 = .ok (.iconst 1, 1) := by decide +kernel
theorem dX12_text_106 : decode cX12_text 106 = .ok (.iadd, 1) := by decide +kernel
theorem dX12_text_107 : decode cX12_text 107 = .ok (.putfield 251, 3) := by decide +kernel
theorem dX12_text_110 : decode cX12_text 110 = .ok (.aload_n 0, 1) := by decide +kernel
theorem dX12_text_111 : decode cX12_text 111 = .ok (.getfield 251, 3) := by decide +kernel
theorem dX12_text_114 : decode cX12_text 114 = .ok (.iconst 1, 1) := by decide +kernel
theorem dX12_text_115 : decode cX12_text 115 = .ok (.isub, 1) := by decide +kernel
theorem dX12_text_116 : decode cX12_text 116 = .ok (.ireturn, 1) := by decide +kernel
theorem dX12_text_117 : decode cX12_text 117 = .ok (.iconst (-1), 1) := by decide +kernel
theorem dX12_text_118 : decode cX12_text 118 = .ok (.ireturn, 1) := by decide +kernel
theorem dX12_isWheel_0 : decode cX12_isWheel 0 = .ok (.iload_n 1, 1) := by decide +kernel
theorem dX12_isWheel_1 : decode cX12_isWheel 1 = .ok (.iconst 0, 1) := by decide +kernel
theorem dX12_isWheel_2 : decode cX12_isWheel 2 = .ok (.aload_n 0, 1) := by decide +kernel
theorem dX12_isWheel_3 : decode cX12_isWheel 3 = .ok (.getfield 263, 3) := by decide +kernel
theorem dX12_isWheel_6 : decode cX12_isWheel 6 = .ok (.iconst 1, 1) := by decide +kernel
theorem dX12_isWheel_7 : decode cX12_isWheel 7 = .ok (.isub, 1) := by decide +kernel
theorem dX12_isWheel_8 : decode cX12_isWheel 8 = .ok (.invokestatic 208, 3) := by decide +kernel
theorem dX12_isWheel_11 : decode cX12_isWheel 11 = .ok (.ireturn, 1) := by decide +kernel
theorem dX12_isStrip_0 : decode cX12_isStrip 0 = .ok (.iload_n 1, 1) := by decide +kernel
theorem dX12_isStrip_1 : decode cX12_isStrip 1 = .ok (.iconst 0, 1) := by decide +kernel
theorem dX12_isStrip_2 : decode cX12_isStrip 2 = .ok (.aload_n 0, 1) := by decide +kernel
theorem dX12_isStrip_3 : decode cX12_isStrip 3 = .ok (.getfield 251, 3) := by decide +kernel
theorem dX12_isStrip_6 : decode cX12_isStrip 6 = .ok (.iconst 1, 1) := by decide +kernel
theorem dX12_isStrip_7 : decode cX12_isStrip 7 = .ok (.isub, 1) := by decide +kernel
theorem dX12_isStrip_8 : decode cX12_isStrip 8 = .ok (.invokestatic 208, 3) := by decide +kernel
theorem dX12_isStrip_11 : decode cX12_isStrip 11 = .ok (.ireturn, 1) := by decide +kernel
theorem dX12_moveBy_0 : decode cX12_moveBy 0 = .ok (.aload_n 0, 1) := by decide +kernel
theorem dX12_moveBy_1 : decode cX12_moveBy 1 = .ok (.iload_n 1, 1) := by decide +kernel
theorem dX12_moveBy_2 : decode cX12_moveBy 2 = .ok (.iconst 1, 1) := by decide +kernel
theorem dX12_moveBy_3 : decode cX12_moveBy 3 = .ok (.invokevirtual 254, 3) := by decide +kernel
theorem dX12_moveBy_6 : decode cX12_moveBy 6 = .ok (.iconst 1, 1) := by decide +kernel
theorem dX12_moveBy_7 : decode cX12_moveBy 7 = .ok (.if_icmp .ne 13, 3) := by decide +kernel
theorem dX12_moveBy_10 : decode cX12_moveBy 10 = .ok (.aload_n 0, 1) := by decide +kernel
theorem dX12_moveBy_11 : decode cX12_moveBy 11 = .ok (.iload_n 1, 1) := by decide +kernel
theorem dX12_moveBy_12 : decode cX12_moveBy 12 = .ok (.iconst 0, 1) := by decide +kernel
theorem dX12_moveBy_13 : decode cX12_moveBy 13 = .ok (.invokevirtual 254, 3) := by decide +kernel
theorem dX12_moveBy_16 : decode cX12_moveBy 16 = .ok (.ineg, 1) := by decide +kernel
theorem dX12_moveBy_17 : decode cX12_moveBy 17 = .ok (.goto 9, 3) := by decide +kernel
theorem dX12_moveBy_20 : decode cX12_moveBy 20 = .ok (.aload_n 0, 1) := by decide +kernel
theorem dX12_moveBy_21 : decode cX12_moveBy 21 = .ok (.iload_n 1, 1) := by decide +kernel
theorem dX12_moveBy_22 : decode cX12_moveBy 22 = .ok (.iconst 0, 1) := by decide +kernel
theorem dX12_moveBy_23 : decode cX12_moveBy 23 = .ok (.invokevirtual 254, 3) := by decide +kernel
theorem dX12_moveBy_26 : decode cX12_moveBy 26 = .ok (.istore 4, 2) := by decide +kernel
theorem dX12_moveBy_28 : decode cX12_moveBy 28 = .ok (.aload_n 0, 1) := by decide +kernel
theorem dX12_moveBy_29 : decode cX12_moveBy 29 = .ok (.getfield 58, 3) := by decide +kernel
theorem dX12_moveBy_32 : decode cX12_moveBy 32 = .ok (.iconst (-1), 1) := by decide +kernel
theorem dX12_moveBy_33 : decode cX12_moveBy 33 = .ok (.if_icmp .ne 6, 3) := by decide +kernel
theorem dX12_moveBy_36 : decode cX12_moveBy 36 = .ok (.iload 4, 2) := by decide +kernel
theorem dX12_moveBy_38 : decode cX12_moveBy 38 = .ok (.ireturn, 1) := by decide +kernel
theorem dX12_moveBy_39 : decode cX12_moveBy 39 = .ok (.aload_n 0, 1) := by decide +kernel
theorem dX12_moveBy_40 : decode cX12_moveBy 40 = .ok (.getfield 34, 3) := by decide +kernel
theorem dX12_moveBy_43 : decode cX12_moveBy 43 = .ok (.iconst 0, 1) := by decide +kernel
theorem dX12_moveBy_44 : decode cX12_moveBy 44 = .ok (.iload 4, 2) := by decide +kernel
theorem dX12_moveBy_46 : decode cX12_moveBy 46 = .ok (.iastore, 1) := by decide +kernel
theorem dX12_moveBy_47 : decode cX12_moveBy 47 = .ok (.aload_n 0, 1) := by decide +kernel
theorem dX12_moveBy_48 : decode cX12_moveBy 48 = .ok (.getfield 34, 3) := by decide +kernel
theorem dX12_moveBy_51 : decode cX12_moveBy 51 = .ok (.iconst 1, 1) := by decide +kernel
theorem dX12_moveBy_52 : decode cX12_moveBy 52 = .ok (.iload_n 2, 1) := by decide +kernel
theorem dX12_moveBy_53 : decode cX12_moveBy 53 = .ok (.iastore, 1) := by decide +kernel
theorem dX12_moveBy_54 : decode cX12_moveBy 54 = .ok (.aload_n 0, 1) := by decide +kernel
theorem dX12_moveBy_55 : decode cX12_moveBy 55 = .ok (.getfield 34, 3) := by decide +kernel
theorem dX12_moveBy_58 : decode cX12_moveBy 58 = .ok (.iconst 2, 1) := by decide +kernel
theorem dX12_moveBy_59 : decode cX12_moveBy 59 = .ok (.aload_n 0, 1) := by decide +kernel
theorem dX12_moveBy_60 : decode cX12_moveBy 60 = .ok (.iload_n 1, 1) := by decide +kernel
theorem dX12_moveBy_61 : decode cX12_moveBy 61 = .ok (.invokevirtual 266, 3) := by decide +kernel
theorem dX12_moveBy_64 : decode cX12_moveBy 64 = .ok (.iastore, 1) := by decide +kernel
theorem dX12_moveBy_65 : decode cX12_moveBy 65 = .ok (.aload_n 0, 1) := by decide +kernel
theorem dX12_moveBy_66 : decode cX12_moveBy 66 = .ok (.getfield 34, 3) := by decide +kernel
theorem dX12_moveBy_69 : decode cX12_moveBy 69 = .ok (.iconst 3, 1) := by decide +kernel
theorem dX12_moveBy_70 : decode cX12_moveBy 70 = .ok (.aload_n 0, 1) := by decide +kernel
theorem dX12_moveBy_71 : decode cX12_moveBy 71 = .ok (.aload_n 0, 1) := by decide +kernel
theorem dX12_moveBy_72 : decode cX12_moveBy 72 = .ok (.iload_n 1, 1) := by decide +kernel
theorem dX12_moveBy_73 : decode cX12_moveBy 73 = .ok (.iconst 3, 1) := by decide +kernel
theorem dX12_moveBy_74 : decode cX12_moveBy 74 = .ok (.invokevirtual 254, 3) := by decide +kernel
theorem dX12_moveBy_77 : decode cX12_moveBy 77 = .ok (.iload_n 2, 1) := by decide +kernel
theorem dX12_moveBy_78 : decode cX12_moveBy 78 = .ok (.invokevirtual 260, 3) := by decide +kernel
theorem dX12_moveBy_81 : decode cX12_moveBy 81 = .ok (.iastore, 1) := by decide +kernel
theorem dX12_moveBy_82 : decode cX12_moveBy 82 = .ok (.aload_n 0, 1) := by decide +kernel
theorem dX12_moveBy_83 : decode cX12_moveBy 83 = .ok (.getfield 34, 3) := by decide +kernel
theorem dX12_moveBy_86 : decode cX12_moveBy 86 = .ok (.iconst 4, 1) := by decide +kernel
theorem dX12_moveBy_87 : decode cX12_moveBy 87 = .ok (.iload_n 3, 1) := by decide +kernel
theorem dX12_moveBy_88 : decode cX12_moveBy 88 = .ok (.bipush 24, 2) := by decide +kernel
theorem dX12_moveBy_90 : decode cX12_moveBy 90 = .ok (.irem, 1) := by decide +kernel
theorem dX12_moveBy_91 : decode cX12_moveBy 91 = .ok (.iastore, 1) := by decide +kernel
theorem dX12_moveBy_92 : decode cX12_moveBy 92 = .ok (.aload_n 0, 1) := by decide +kernel
theorem dX12_moveBy_93 : decode cX12_moveBy 93 = .ok (.getfield 34, 3) := by decide +kernel
theorem dX12_moveBy_96 : decode cX12_moveBy 96 = .ok (.iconst 5, 1) := by decide +kernel
theorem dX12_moveBy_97 : decode cX12_moveBy 97 = .ok (.aload_n 0, 1) := by decide +kernel
theorem dX12_moveBy_98 : decode cX12_moveBy 98 = .ok (.getfield 52, 3) := by decide +kernel
theorem dX12_moveBy_101 : decode cX12_moveBy 101 = .ok (.bipush 16, 2) := by decide +kernel
theorem dX12_moveBy_103 : decode cX12_moveBy 103 = .ok (.iaload, 1) := by decide +kernel
theorem dX12_moveBy_104 : decode cX12_moveBy 104 = .ok (.iastore, 1) := by decide +kernel
theorem dX12_moveBy_105 : decode cX12_moveBy 105 = .ok (.bipush (-15), 2) := by decide +kernel
theorem dX12_moveBy_107 : decode cX12_moveBy 107 = .ok (.bipush 15, 2) := by decide +kernel
theorem dX12_moveBy_109 : decode cX12_moveBy 109 = .ok (.aload_n 0, 1) := by decide +kernel
theorem dX12_moveBy_110 : decode cX12_moveBy 110 = .ok (.aload_n 0, 1) := by decide +kernel
theorem dX12_moveBy_111 : decode cX12_moveBy 111 = .ok (.getfield 58, 3) := by decide +kernel
theorem dX12_moveBy_114 : decode cX12_moveBy 114 = .ok (.invokevirtual 285, 3) := by decide +kernel
theorem dX12_moveBy_117 : decode cX12_moveBy 117 = .ok (.invokestatic 288, 3) := by decide +kernel
theorem dX12_moveBy_120 : decode cX12_moveBy 120 = .ok (.invokestatic 290, 3) := by decide +kernel
theorem dX12_moveBy_123 : decode cX12_moveBy 123 = .ok (.ireturn, 1) := by decide +kernel
theorem dX12_nextOf_0 : decode cX12_nextOf 0 = .ok (.iload_n 2, 1) := by decide +kernel
theorem dX12_nextOf_1 : decode cX12_nextOf 1 = .ok (.aload_n 0, 1) := by decide +kernel
theorem dX12_nextOf_2 : decode cX12_nextOf 2 = .ok (.iload_n 1, 1) := by decide +kernel
theorem dX12_nextOf_3 : decode cX12_nextOf 3 = .ok (.iload_n 2, 1) := by decide +kernel
theorem dX12_nextOf_4 : decode cX12_nextOf 4 = .ok (.iload_n 3, 1) := by decide +kernel
theorem dX12_nextOf_5 : decode cX12_nextOf 5 = .ok (.invokevirtual 292, 3) := by decide +kernel
theorem dX12_nextOf_8 : decode cX12_nextOf 8 = .ok (.iadd, 1) := by decide +kernel
theorem dX12_nextOf_9 : decode cX12_nextOf 9 = .ok (.aload_n 0, 1) := by decide +kernel
theorem dX12_nextOf_10 : decode cX12_nextOf 10 = .ok (.iload_n 1, 1) := by decide +kernel
theorem dX12_nextOf_11 : decode cX12_nextOf 11 = .ok (.invokevirtual 266, 3) := by decide +kernel
theorem dX12_nextOf_14 : decode cX12_nextOf 14 = .ok (.invokestatic 295, 3) := by decide +kernel
theorem dX12_nextOf_17 : decode cX12_nextOf 17 = .ok (.ireturn, 1) := by decide +kernel
theorem dX12_placeBehind_0 : decode cX12_placeBehind 0 = .ok (.aload_n 0, 1) := by decide +kernel
theorem dX12_placeBehind_1 : decode cX12_placeBehind 1 = .ok (.iload_n 1, 1) := by decide +kernel
theorem dX12_placeBehind_2 : decode cX12_placeBehind 2 = .ok (.iconst 2, 1) := by decide +kernel
theorem dX12_placeBehind_3 : decode cX12_placeBehind 3 = .ok (.invokevirtual 254, 3) := by decide +kernel
theorem dX12_placeBehind_6 : decode cX12_placeBehind 6 = .ok (.istore_n 3, 1) := by decide +kernel
theorem dX12_placeBehind_7 : decode cX12_placeBehind 7 = .ok (.iconst 0, 1) := by decide +kernel
theorem dX12_placeBehind_8 : decode cX12_placeBehind 8 = .ok (.istore 4, 2) := by decide +kernel
theorem dX12_placeBehind_10 : decode cX12_placeBehind 10 = .ok (.iload 4, 2) := by decide +kernel
theorem dX12_placeBehind_12 : decode cX12_placeBehind 12 = .ok (.iload_n 2, 1) := by decide +kernel
theorem dX12_placeBehind_13 : decode cX12_placeBehind 13 = .ok (.if_icmp .ge 26, 3) := by decide +kernel
theorem dX12_placeBehind_16 : decode cX12_placeBehind 16 = .ok (.aload_n 0, 1) := by decide +kernel
theorem dX12_placeBehind_17 : decode cX12_placeBehind 17 = .ok (.iload_n 1, 1) := by decide +kernel
theorem dX12_placeBehind_18 : decode cX12_placeBehind 18 = .ok (.iload_n 3, 1) := by decide +kernel
theorem dX12_placeBehind_19 : decode cX12_placeBehind 19 = .ok (.aload_n 0, 1) := by decide +kernel
theorem dX12_placeBehind_20 : decode cX12_placeBehind 20 = .ok (.getfield 52, 3) := by decide +kernel
theorem dX12_placeBehind_23 : decode cX12_placeBehind 23 = .ok (.bipush 19, 2) := by decide +kernel
theorem dX12_placeBehind_25 : decode cX12_placeBehind 25 = .ok (.iaload, 1) := by decide +kernel
theorem dX12_placeBehind_26 : decode cX12_placeBehind 26 = .ok (.iload 4, 2) := by decide +kernel
theorem dX12_placeBehind_28 : decode cX12_placeBehind 28 = .ok (.iadd, 1) := by decide +kernel
theorem dX12_placeBehind_29 : decode cX12_placeBehind 29 = .ok (.invokevirtual 298, 3) := by decide +kernel
theorem dX12_placeBehind_32 : decode cX12_placeBehind 32 = .ok (.istore_n 3, 1) := by decide +kernel
theorem dX12_placeBehind_33 : decode cX12_placeBehind 33 = .ok (.iinc 4 1, 3) := by decide +kernel
theorem dX12_placeBehind_36 : decode cX12_placeBehind 36 = .ok (.goto (-26), 3) := by decide +kernel
theorem dX12_placeBehind_39 : decode cX12_placeBehind 39 = .ok (.iload_n 3, 1) := by decide +kernel
theorem dX12_placeBehind_40 : decode cX12_placeBehind 40 = .ok (.ireturn, 1) := by decide +kernel
theorem dX12_passTick_0 : decode cX12_passTick 0 = .ok (.aload_n 0, 1) := by decide +kernel
theorem dX12_passTick_1 : decode cX12_passTick 1 = .ok (.getfield 52, 3) := by decide +kernel
theorem dX12_passTick_4 : decode cX12_passTick 4 = .ok (.bipush 17, 2) := by decide +kernel
theorem dX12_passTick_6 : decode cX12_passTick 6 = .ok (.iaload, 1) := by decide +kernel
theorem dX12_passTick_7 : decode cX12_passTick 7 = .ok (.ifCond .le 58, 3) := by decide +kernel
theorem dX12_passTick_10 : decode cX12_passTick 10 = .ok (.aload_n 0, 1) := by decide +kernel
theorem dX12_passTick_11 : decode cX12_passTick 11 = .ok (.getfield 52, 3) := by decide +kernel
theorem dX12_passTick_14 : decode cX12_passTick 14 = .ok (.bipush 17, 2) := by decide +kernel
theorem dX12_passTick_16 : decode cX12_passTick 16 = .ok (.dup2, 1) := by decide +kernel
theorem dX12_passTick_17 : decode cX12_passTick 17 = .ok (.iaload, 1) := by decide +kernel
theorem dX12_passTick_18 : decode cX12_passTick 18 = .ok (.iconst 1, 1) := by decide +kernel
theorem dX12_passTick_19 : decode cX12_passTick 19 = .ok (.isub, 1) := by decide +kernel
theorem dX12_passTick_20 : decode cX12_passTick 20 = .ok (.iastore, 1) := by decide +kernel
theorem dX12_passTick_21 : decode cX12_passTick 21 = .ok (.iconst 0, 1) := by decide +kernel
theorem dX12_passTick_22 : decode cX12_passTick 22 = .ok (.istore_n 1, 1) := by decide +kernel
theorem dX12_passTick_23 : decode cX12_passTick 23 = .ok (.iload_n 1, 1) := by decide +kernel
theorem dX12_passTick_24 : decode cX12_passTick 24 = .ok (.aload_n 0, 1) := by decide +kernel
theorem dX12_passTick_25 : decode cX12_passTick 25 = .ok (.getfield 263, 3) := by decide +kernel
theorem dX12_passTick_28 : decode cX12_passTick 28 = .ok (.if_icmp .ge 37, 3) := by decide +kernel
theorem dX12_passTick_31 : decode cX12_passTick 31 = .ok (.aload_n 0, 1) := by decide +kernel
theorem dX12_passTick_32 : decode cX12_passTick 32 = .ok (.getfield 52, 3) := by decide +kernel
theorem dX12_passTick_35 : decode cX12_passTick 35 = .ok (.iconst 4, 1) := by decide +kernel
theorem dX12_passTick_36 : decode cX12_passTick 36 = .ok (.iload_n 1, 1) := by decide +kernel
theorem dX12_passTick_37 : decode cX12_passTick 37 = .ok (.imul, 1) := by decide +kernel
theorem dX12_passTick_38 : decode cX12_passTick 38 = .ok (.iconst 2, 1) := by decide +kernel
theorem dX12_passTick_39 : decode cX12_passTick 39 = .ok (.iadd, 1) := by decide +kernel
theorem dX12_passTick_40 : decode cX12_passTick 40 = .ok (.aload_n 0, 1) := by decide +kernel
theorem dX12_passTick_41 : decode cX12_passTick 41 = .ok (.iload_n 1, 1) := by decide +kernel
theorem dX12_passTick_42 : decode cX12_passTick 42 = .ok (.aload_n 0, 1) := by decide +kernel
theorem dX12_passTick_43 : decode cX12_passTick 43 = .ok (.iload_n 1, 1) := by decide +kernel
theorem dX12_passTick_44 : decode cX12_passTick 44 = .ok (.iconst 2, 1) := by decide +kernel
theorem dX12_passTick_45 : decode cX12_passTick 45 = .ok (.invokevirtual 254, 3) := by decide +kernel
theorem dX12_passTick_48 : decode cX12_passTick 48 = .ok (.aload_n 0, 1) := by decide +kernel
theorem dX12_passTick_49 : decode cX12_passTick 49 = .ok (.getfield 52, 3) := by decide +kernel
theorem dX12_passTick_52 : decode cX12_passTick 52 = .ok (.bipush 19, 2) := by decide +kernel
theorem dX12_passTick_54 : decode cX12_passTick 54 = .ok (.iaload, 1) := by decide +kernel
theorem dX12_passTick_55 : decode cX12_passTick 55 = .ok (.invokevirtual 298, 3) := by decide +kernel
theorem dX12_passTick_58 : decode cX12_passTick 58 = .ok (.iastore, 1) := by decide +kernel
theorem dX12_passTick_59 : decode cX12_passTick 59 = .ok (.iinc 1 1, 3) := by decide +kernel
theorem dX12_passTick_62 : decode cX12_passTick 62 = .ok (.goto (-39), 3) := by decide +kernel
theorem dX12_passTick_65 : decode cX12_passTick 65 = .ok (.aload_n 0, 1) := by decide +kernel
theorem dX12_passTick_66 : decode cX12_passTick 66 = .ok (.getfield 52, 3) := by decide +kernel
theorem dX12_passTick_69 : decode cX12_passTick 69 = .ok (.bipush 19, 2) := by decide +kernel
theorem dX12_passTick_71 : decode cX12_passTick 71 = .ok (.dup2, 1) := by decide +kernel
theorem dX12_passTick_72 : decode cX12_passTick 72 = .ok (.iaload, 1) := by decide +kernel
theorem dX12_passTick_73 : decode cX12_passTick 73 = .ok (.iconst 1, 1) := by decide +kernel
theorem dX12_passTick_74 : decode cX12_passTick 74 = .ok (.iadd, 1) := by decide +kernel
theorem dX12_passTick_75 : decode cX12_passTick 75 = .ok (.iastore, 1) := by decide +kernel
theorem dX12_passTick_76 : decode cX12_passTick 76 = .ok (.aload_n 0, 1) := by decide +kernel
theorem dX12_passTick_77 : decode cX12_passTick 77 = .ok (.getfield 52, 3) := by decide +kernel
theorem dX12_passTick_80 : decode cX12_passTick 80 = .ok (.bipush 19, 2) := by decide +kernel
theorem dX12_passTick_82 : decode cX12_passTick 82 = .ok (.iaload, 1) := by decide +kernel
theorem dX12_passTick_83 : decode cX12_passTick 83 = .ok (.aload_n 0, 1) := by decide +kernel
theorem dX12_passTick_84 : decode cX12_passTick 84 = .ok (.getfield 52, 3) := by decide +kernel
theorem dX12_passTick_87 : decode cX12_passTick 87 = .ok (.bipush 16, 2) := by decide +kernel
theorem dX12_passTick_89 : decode cX12_passTick 89 = .ok (.iaload, 1) := by decide +kernel
theorem dX12_passTick_90 : decode cX12_passTick 90 = .ok (.irem, 1) := by decide +kernel
theorem dX12_passTick_91 : decode cX12_passTick 91 = .ok (.ifCond .ne 7, 3) := by decide +kernel
theorem dX12_passTick_94 : decode cX12_passTick 94 = .ok (.aload_n 0, 1) := by decide +kernel
theorem dX12_passTick_95 : decode cX12_passTick 95 = .ok (.invokevirtual 301, 3) := by decide +kernel
theorem dX12_passTick_98 : decode cX12_passTick 98 = .ok (.return_, 1) := by decide +kernel
theorem dX12_putLog_0 : decode cX12_putLog 0 = .ok (.aload_n 0, 1) := by decide +kernel
theorem dX12_putLog_1 : decode cX12_putLog 1 = .ok (.getfield 52, 3) := by decide +kernel
theorem dX12_putLog_4 : decode cX12_putLog 4 = .ok (.bipush 20, 2) := by decide +kernel
theorem dX12_putLog_6 : decode cX12_putLog 6 = .ok (.iaload, 1) := by decide +kernel
theorem dX12_putLog_7 : decode cX12_putLog 7 = .ok (.bipush 60, 2) := by decide +kernel
theorem dX12_putLog_9 : decode cX12_putLog 9 = .ok (.if_icmp .ne 49, 3) := by decide +kernel
theorem dX12_putLog_12 : decode cX12_putLog 12 = .ok (.iconst 4, 1) := by decide +kernel
theorem dX12_putLog_13 : decode cX12_putLog 13 = .ok (.istore_n 1, 1) := by decide +kernel
theorem dX12_putLog_14 : decode cX12_putLog 14 = .ok (.iload_n 1, 1) := by decide +kernel
theorem dX12_putLog_15 : decode cX12_putLog 15 = .ok (.sipush 240, 3) := by decide +kernel
theorem dX12_putLog_18 : decode cX12_putLog 18 = .ok (.if_icmp .ge 29, 3) := by decide +kernel
theorem dX12_putLog_21 : decode cX12_putLog 21 = .ok (.aload_n 0, 1) := by decide +kernel
theorem dX12_putLog_22 : decode cX12_putLog 22 = .ok (.getfield 52, 3) := by decide +kernel
theorem dX12_putLog_25 : decode cX12_putLog 25 = .ok (.bipush 21, 2) := by decide +kernel
theorem dX12_putLog_27 : decode cX12_putLog 27 = .ok (.iload_n 1, 1) := by decide +kernel
theorem dX12_putLog_28 : decode cX12_putLog 28 = .ok (.iadd, 1) := by decide +kernel
theorem dX12_putLog_29 : decode cX12_putLog 29 = .ok (.iconst 4, 1) := by decide +kernel
theorem dX12_putLog_30 : decode cX12_putLog 30 = .ok (.isub, 1) := by decide +kernel
theorem dX12_putLog_31 : decode cX12_putLog 31 = .ok (.aload_n 0, 1) := by decide +kernel
theorem dX12_putLog_32 : decode cX12_putLog 32 = .ok (.getfield 52, 3) := by decide +kernel
theorem dX12_putLog_35 : decode cX12_putLog 35 = .ok (.bipush 21, 2) := by decide +kernel
theorem dX12_putLog_37 : decode cX12_putLog 37 = .ok (.iload_n 1, 1) := by decide +kernel
theorem dX12_putLog_38 : decode cX12_putLog 38 = .ok (.iadd, 1) := by decide +kernel
theorem dX12_putLog_39 : decode cX12_putLog 39 = .ok (.iaload, 1) := by decide +kernel
theorem dX12_putLog_40 : decode cX12_putLog 40 = .ok (.iastore, 1) := by decide +kernel
theorem dX12_putLog_41 : decode cX12_putLog 41 = .ok (.iinc 1 1, 3) := by decide +kernel
theorem dX12_putLog_44 : decode cX12_putLog 44 = .ok (.goto (-30), 3) := by decide +kernel
theorem dX12_putLog_47 : decode cX12_putLog 47 = .ok (.aload_n 0, 1) := by decide +kernel
theorem dX12_putLog_48 : decode cX12_putLog 48 = .ok (.getfield 52, 3) := by decide +kernel
theorem dX12_putLog_51 : decode cX12_putLog 51 = .ok (.bipush 20, 2) := by decide +kernel
theorem dX12_putLog_53 : decode cX12_putLog 53 = .ok (.dup2, 1) := by decide +kernel
theorem dX12_putLog_54 : decode cX12_putLog 54 = .ok (.iaload, 1) := by decide +kernel
theorem dX12_putLog_55 : decode cX12_putLog 55 = .ok (.iconst 1, 1) := by decide +kernel
theorem dX12_putLog_56 : decode cX12_putLog 56 = .ok (.isub, 1) := by decide +kernel
theorem dX12_putLog_57 : decode cX12_putLog 57 = .ok (.iastore, 1) := by decide +kernel
theorem dX12_putLog_58 : decode cX12_putLog 58 = .ok (.aload_n 0, 1) := by decide +kernel
theorem dX12_putLog_59 : decode cX12_putLog 59 = .ok (.getfield 263, 3) := by decide +kernel
theorem dX12_putLog_62 : decode cX12_putLog 62 = .ok (.iconst 1, 1) := by decide +kernel
theorem dX12_putLog_63 : decode cX12_putLog 63 = .ok (.if_icmp .le 7, 3) := by decide +kernel
theorem dX12_putLog_66 : decode cX12_putLog 66 = .ok (.iconst 1, 1) := by decide +kernel
theorem dX12_putLog_67 : decode cX12_putLog 67 = .ok (.goto 4, 3) := by decide +kernel
theorem dX12_putLog_70 : decode cX12_putLog 70 = .ok (.iconst 0, 1) := by decide +kernel
theorem dX12_putLog_71 : decode cX12_putLog 71 = .ok (.istore_n 1, 1) := by decide +kernel
theorem dX12_putLog_72 : decode cX12_putLog 72 = .ok (.iconst 0, 1) := by decide +kernel
theorem dX12_putLog_73 : decode cX12_putLog 73 = .ok (.istore_n 2, 1) := by decide +kernel
theorem dX12_putLog_74 : decode cX12_putLog 74 = .ok (.iload_n 2, 1) := by decide +kernel
theorem dX12_putLog_75 : decode cX12_putLog 75 = .ok (.iconst 4, 1) := by decide +kernel
theorem dX12_putLog_76 : decode cX12_putLog 76 = .ok (.if_icmp .ge 87, 3) := by decide +kernel
theorem dX12_putLog_79 : decode cX12_putLog 79 = .ok (.aload_n 0, 1) := by decide +kernel
theorem dX12_putLog_80 : decode cX12_putLog 80 = .ok (.getfield 52, 3) := by decide +kernel
theorem dX12_putLog_83 : decode cX12_putLog 83 = .ok (.bipush 21, 2) := by decide +kernel
theorem dX12_putLog_85 : decode cX12_putLog 85 = .ok (.iconst 4, 1) := by decide +kernel
theorem dX12_putLog_86 : decode cX12_putLog 86 = .ok (.aload_n 0, 1) := by decide +kernel
theorem dX12_putLog_87 : decode cX12_putLog 87 = .ok (.getfield 52, 3) := by decide +kernel
theorem dX12_putLog_90 : decode cX12_putLog 90 = .ok (.bipush 20, 2) := by decide +kernel
theorem dX12_putLog_92 : decode cX12_putLog 92 = .ok (.iaload, 1) := by decide +kernel
theorem dX12_putLog_93 : decode cX12_putLog 93 = .ok (.imul, 1) := by decide +kernel
theorem dX12_putLog_94 : decode cX12_putLog 94 = .ok (.iadd, 1) := by decide +kernel
theorem dX12_putLog_95 : decode cX12_putLog 95 = .ok (.iload_n 2, 1) := by decide +kernel
theorem dX12_putLog_96 : decode cX12_putLog 96 = .ok (.iadd, 1) := by decide +kernel
theorem dX12_putLog_97 : decode cX12_putLog 97 = .ok (.iload_n 2, 1) := by decide +kernel
theorem dX12_putLog_98 : decode cX12_putLog 98 = .ok (.aload_n 0, 1) := by decide +kernel
theorem dX12_putLog_99 : decode cX12_putLog 99 = .ok (.getfield 263, 3) := by decide +kernel
theorem dX12_putLog_102 : decode cX12_putLog 102 = .ok (.if_icmp .ge 11, 3) := by decide +kernel
theorem dX12_putLog_105 : decode cX12_putLog 105 = .ok (.aload_n 0, 1) := by decide +kernel
theorem dX12_putLog_106 : decode cX12_putLog 106 = .ok (.iload_n 2, 1) := by decide +kernel
theorem dX12_putLog_107 : decode cX12_putLog 107 = .ok (.invokevirtual 304, 3) := by decide +kernel
theorem dX12_putLog_110 : decode cX12_putLog 110 = .ok (.goto 5, 3) := by decide +kernel
theorem dX12_putLog_113 : decode cX12_putLog 113 = .ok (.bipush 26, 2) := by decide +kernel
theorem dX12_putLog_115 : decode cX12_putLog 115 = .ok (.iastore, 1) := by decide +kernel
theorem dX12_putLog_116 : decode cX12_putLog 116 = .ok (.iload_n 1, 1) := by decide +kernel
theorem dX12_putLog_117 : decode cX12_putLog 117 = .ok (.ifCond .eq 38, 3) := by decide +kernel
theorem dX12_putLog_120 : decode cX12_putLog 120 = .ok (.iload_n 2, 1) := by decide +kernel
theorem dX12_putLog_121 : decode cX12_putLog 121 = .ok (.aload_n 0, 1) := by decide +kernel
theorem dX12_putLog_122 : decode cX12_putLog 122 = .ok (.getfield 263, 3) := by decide +kernel
theorem dX12_putLog_125 : decode cX12_putLog 125 = .ok (.if_icmp .ge 26, 3) := by decide +kernel
theorem dX12_putLog_128 : decode cX12_putLog 128 = .ok (.aload_n 0, 1) := by decide +kernel
theorem dX12_putLog_129 : decode cX12_putLog 129 = .ok (.iload_n 2, 1) := by decide +kernel
theorem dX12_putLog_130 : decode cX12_putLog 130 = .ok (.invokevirtual 304, 3) := by decide +kernel
theorem dX12_putLog_133 : decode cX12_putLog 133 = .ok (.bipush 26, 2) := by decide +kernel
theorem dX12_putLog_135 : decode cX12_putLog 135 = .ok (.if_icmp .eq 20, 3) := by decide +kernel
theorem dX12_putLog_138 : decode cX12_putLog 138 = .ok (.aload_n 0, 1) := by decide +kernel
theorem dX12_putLog_139 : decode cX12_putLog 139 = .ok (.iload_n 2, 1) := by decide +kernel
theorem dX12_putLog_140 : decode cX12_putLog 140 = .ok (.invokevirtual 304, 3) := by decide +kernel
theorem dX12_putLog_143 : decode cX12_putLog 143 = .ok (.aload_n 0, 1) := by decide +kernel
theorem dX12_putLog_144 : decode cX12_putLog 144 = .ok (.iconst 0, 1) := by decide +kernel
theorem dX12_putLog_145 : decode cX12_putLog 145 = .ok (.invokevirtual 304, 3) := by decide +kernel
theorem dX12_putLog_148 : decode cX12_putLog 148 = .ok (.if_icmp .ne 7, 3) := by decide +kernel
theorem dX12_putLog_151 : decode cX12_putLog 151 = .ok (.iconst 1, 1) := by decide +kernel
theorem dX12_putLog_152 : decode cX12_putLog 152 = .ok (.goto 4, 3) := by decide +kernel
theorem dX12_putLog_155 : decode cX12_putLog 155 = .ok (.iconst 0, 1) := by decide +kernel
theorem dX12_putLog_156 : decode cX12_putLog 156 = .ok (.istore_n 1, 1) := by decide +kernel
theorem dX12_putLog_157 : decode cX12_putLog 157 = .ok (.iinc 2 1, 3) := by decide +kernel
theorem dX12_putLog_160 : decode cX12_putLog 160 = .ok (.goto (-86), 3) := by decide +kernel
theorem dX12_putLog_163 : decode cX12_putLog 163 = .ok (.aload_n 0, 1) := by decide +kernel
theorem dX12_putLog_164 : decode cX12_putLog 164 = .ok (.getfield 52, 3) := by decide +kernel
theorem dX12_putLog_167 : decode cX12_putLog 167 = .ok (.bipush 20, 2) := by decide +kernel
theorem dX12_putLog_169 : decode cX12_putLog 169 = .ok (.dup2, 1) := by decide +kernel
theorem dX12_putLog_170 : decode cX12_putLog 170 = .ok (.iaload, 1) := by decide +kernel
theorem dX12_putLog_171 : decode cX12_putLog 171 = .ok (.iconst 1, 1) := by decide +kernel
theorem dX12_putLog_172 : decode cX12_putLog 172 = .ok (.iadd, 1) := by decide +kernel
theorem dX12_putLog_173 : decode cX12_putLog 173 = .ok (.iastore, 1) := by decide +kernel
theorem dX12_putLog_174 : decode cX12_putLog 174 = .ok (.aload_n 0, 1) := by decide +kernel
theorem dX12_putLog_175 : decode cX12_putLog 175 = .ok (.getfield 52, 3) := by decide +kernel
theorem dX12_putLog_178 : decode cX12_putLog 178 = .ok (.bipush 18, 2) := by decide +kernel
theorem dX12_putLog_180 : decode cX12_putLog 180 = .ok (.sipush 999, 3) := by decide +kernel
theorem dX12_putLog_183 : decode cX12_putLog 183 = .ok (.aload_n 0, 1) := by decide +kernel
theorem dX12_putLog_184 : decode cX12_putLog 184 = .ok (.getfield 52, 3) := by decide +kernel
theorem dX12_putLog_187 : decode cX12_putLog 187 = .ok (.bipush 18, 2) := by decide +kernel
theorem dX12_putLog_189 : decode cX12_putLog 189 = .ok (.iaload, 1) := by decide +kernel
theorem dX12_putLog_190 : decode cX12_putLog 190 = .ok (.iload_n 1, 1) := by decide +kernel
theorem dX12_putLog_191 : decode cX12_putLog 191 = .ok (.ifCond .eq 7, 3) := by decide +kernel
theorem dX12_putLog_194 : decode cX12_putLog 194 = .ok (.iconst 1, 1) := by decide +kernel
theorem dX12_putLog_195 : decode cX12_putLog 195 = .ok (.goto 4, 3) := by decide +kernel
theorem dX12_putLog_198 : decode cX12_putLog 198 = .ok (.iconst 0, 1) := by decide +kernel
theorem dX12_putLog_199 : decode cX12_putLog 199 = .ok (.iadd, 1) := by decide +kernel
theorem dX12_putLog_200 : decode cX12_putLog 200 = .ok (.invokestatic 288, 3) := by decide +kernel
theorem dX12_putLog_203 : decode cX12_putLog 203 = .ok (.iastore, 1) := by decide +kernel
theorem dX12_putLog_204 : decode cX12_putLog 204 = .ok (.return_, 1) := by decide +kernel
theorem dX12_rule_0 : decode cX12_rule 0 = .ok (.aload_n 0, 1) := by decide +kernel
theorem dX12_rule_1 : decode cX12_rule 1 = .ok (.getfield 263, 3) := by decide +kernel
theorem dX12_rule_4 : decode cX12_rule 4 = .ok (.ifCond .le 24, 3) := by decide +kernel
theorem dX12_rule_7 : decode cX12_rule 7 = .ok (.iload_n 1, 1) := by decide +kernel
theorem dX12_rule_8 : decode cX12_rule 8 = .ok (.iconst 0, 1) := by decide +kernel
theorem dX12_rule_9 : decode cX12_rule 9 = .ok (.iconst 2, 1) := by decide +kernel
theorem dX12_rule_10 : decode cX12_rule 10 = .ok (.invokestatic 208, 3) := by decide +kernel
theorem dX12_rule_13 : decode cX12_rule 13 = .ok (.ifCond .eq 15, 3) := by decide +kernel
theorem dX12_rule_16 : decode cX12_rule 16 = .ok (.aload_n 0, 1) := by decide +kernel
theorem dX12_rule_17 : decode cX12_rule 17 = .ok (.getfield 52, 3) := by decide +kernel
theorem dX12_rule_20 : decode cX12_rule 20 = .ok (.bipush 16, 2) := by decide +kernel
theorem dX12_rule_22 : decode cX12_rule 22 = .ok (.iload_n 1, 1) := by decide +kernel
theorem dX12_rule_23 : decode cX12_rule 23 = .ok (.iadd, 1) := by decide +kernel
theorem dX12_rule_24 : decode cX12_rule 24 = .ok (.iaload, 1) := by decide +kernel
theorem dX12_rule_25 : decode cX12_rule 25 = .ok (.goto 4, 3) := by decide +kernel
theorem dX12_rule_28 : decode cX12_rule 28 = .ok (.iconst (-1), 1) := by decide +kernel
theorem dX12_rule_29 : decode cX12_rule 29 = .ok (.ireturn, 1) := by decide +kernel
theorem dX12_wheel_0 : decode cX12_wheel 0 = .ok (.aload_n 0, 1) := by decide +kernel
theorem dX12_wheel_1 : decode cX12_wheel 1 = .ok (.aload_n 0, 1) := by decide +kernel
theorem dX12_wheel_2 : decode cX12_wheel 2 = .ok (.iload_n 1, 1) := by decide +kernel
theorem dX12_wheel_3 : decode cX12_wheel 3 = .ok (.invokevirtual 307, 3) := by decide +kernel
theorem dX12_wheel_6 : decode cX12_wheel 6 = .ok (.ifCond .eq 16, 3) := by decide +kernel
theorem dX12_wheel_9 : decode cX12_wheel 9 = .ok (.iload_n 2, 1) := by decide +kernel
theorem dX12_wheel_10 : decode cX12_wheel 10 = .ok (.iconst 0, 1) := by decide +kernel
theorem dX12_wheel_11 : decode cX12_wheel 11 = .ok (.iconst 5, 1) := by decide +kernel
theorem dX12_wheel_12 : decode cX12_wheel 12 = .ok (.invokestatic 208, 3) := by decide +kernel
theorem dX12_wheel_15 : decode cX12_wheel 15 = .ok (.ifCond .eq 7, 3) := by decide +kernel
theorem dX12_wheel_18 : decode cX12_wheel 18 = .ok (.iconst 0, 1) := by decide +kernel
theorem dX12_wheel_19 : decode cX12_wheel 19 = .ok (.goto 4, 3) := by decide +kernel
theorem dX12_wheel_22 : decode cX12_wheel 22 = .ok (.iconst 1, 1) := by decide +kernel
theorem dX12_wheel_23 : decode cX12_wheel 23 = .ok (.putfield 93, 3) := by decide +kernel
theorem dX12_wheel_26 : decode cX12_wheel 26 = .ok (.aload_n 0, 1) := by decide +kernel
theorem dX12_wheel_27 : decode cX12_wheel 27 = .ok (.getfield 93, 3) := by decide +kernel
theorem dX12_wheel_30 : decode cX12_wheel 30 = .ok (.iconst 1, 1) := by decide +kernel
theorem dX12_wheel_31 : decode cX12_wheel 31 = .ok (.if_icmp .ne 5, 3) := by decide +kernel
theorem dX12_wheel_34 : decode cX12_wheel 34 = .ok (.iconst 0, 1) := by decide +kernel
theorem dX12_wheel_35 : decode cX12_wheel 35 = .ok (.ireturn, 1) := by decide +kernel
theorem dX12_wheel_36 : decode cX12_wheel 36 = .ok (.iload_n 2, 1) := by decide +kernel
theorem dX12_wheel_37 : decode cX12_wheel 37 = .ok (.iconst 4, 1) := by decide +kernel
theorem dX12_wheel_38 : decode cX12_wheel 38 = .ok (.if_icmp .ne 11, 3) := by decide +kernel
theorem dX12_wheel_41 : decode cX12_wheel 41 = .ok (.aload_n 0, 1) := by decide +kernel
theorem dX12_wheel_42 : decode cX12_wheel 42 = .ok (.iload_n 1, 1) := by decide +kernel
theorem dX12_wheel_43 : decode cX12_wheel 43 = .ok (.invokevirtual 266, 3) := by decide +kernel
theorem dX12_wheel_46 : decode cX12_wheel 46 = .ok (.goto 22, 3) := by decide +kernel
theorem dX12_wheel_49 : decode cX12_wheel 49 = .ok (.iload_n 2, 1) := by decide +kernel
theorem dX12_wheel_50 : decode cX12_wheel 50 = .ok (.iconst 5, 1) := by decide +kernel
theorem dX12_wheel_51 : decode cX12_wheel 51 = .ok (.if_icmp .ne 11, 3) := by decide +kernel
theorem dX12_wheel_54 : decode cX12_wheel 54 = .ok (.aload_n 0, 1) := by decide +kernel
theorem dX12_wheel_55 : decode cX12_wheel 55 = .ok (.iload_n 1, 1) := by decide +kernel
theorem dX12_wheel_56 : decode cX12_wheel 56 = .ok (.invokevirtual 304, 3) := by decide +kernel
theorem dX12_wheel_59 : decode cX12_wheel 59 = .ok (.goto 9, 3) := by decide +kernel
theorem dX12_wheel_62 : decode cX12_wheel 62 = .ok (.aload_n 0, 1) := by decide +kernel
theorem dX12_wheel_63 : decode cX12_wheel 63 = .ok (.iload_n 1, 1) := by decide +kernel
theorem dX12_wheel_64 : decode cX12_wheel 64 = .ok (.iload_n 2, 1) := by decide +kernel
theorem dX12_wheel_65 : decode cX12_wheel 65 = .ok (.invokevirtual 254, 3) := by decide +kernel
theorem dX12_wheel_68 : decode cX12_wheel 68 = .ok (.ireturn, 1) := by decide +kernel
theorem dX12_picture_0 : decode cX12_picture 0 = .ok (.aload_n 0, 1) := by decide +kernel
theorem dX12_picture_1 : decode cX12_picture 1 = .ok (.iload_n 1, 1) := by decide +kernel
theorem dX12_picture_2 : decode cX12_picture 2 = .ok (.invokevirtual 310, 3) := by decide +kernel
theorem dX12_picture_5 : decode cX12_picture 5 = .ok (.ifCond .eq 19, 3) := by decide +kernel
theorem dX12_picture_8 : decode cX12_picture 8 = .ok (.iload_n 2, 1) := by decide +kernel
theorem dX12_picture_9 : decode cX12_picture 9 = .ok (.iconst (-1), 1) := by decide +kernel
theorem dX12_picture_10 : decode cX12_picture 10 = .ok (.aload_n 0, 1) := by decide +kernel
theorem dX12_picture_11 : decode cX12_picture 11 = .ok (.getfield 49, 3) := by decide +kernel
theorem dX12_picture_14 : decode cX12_picture 14 = .ok (.iload_n 1, 1) := by decide +kernel
theorem dX12_picture_15 : decode cX12_picture 15 = .ok (.iaload, 1) := by decide +kernel
theorem dX12_picture_16 : decode cX12_picture 16 = .ok (.iconst 1, 1) := by decide +kernel
theorem dX12_picture_17 : decode cX12_picture 17 = .ok (.isub, 1) := by decide +kernel
theorem dX12_picture_18 : decode cX12_picture 18 = .ok (.invokestatic 208, 3) := by decide +kernel
theorem dX12_picture_21 : decode cX12_picture 21 = .ok (.ifCond .ne 5, 3) := by decide +kernel
theorem dX12_picture_24 : decode cX12_picture 24 = .ok (.iconst (-1), 1) := by decide +kernel
theorem dX12_picture_25 : decode cX12_picture 25 = .ok (.ireturn, 1) := by decide +kernel
theorem dX12_picture_26 : decode cX12_picture 26 = .ok (.iload_n 2, 1) := by decide +kernel
theorem dX12_picture_27 : decode cX12_picture 27 = .ok (.iconst (-1), 1) := by decide +kernel
theorem dX12_picture_28 : decode cX12_picture 28 = .ok (.if_icmp .ne 12, 3) := by decide +kernel
theorem dX12_picture_31 : decode cX12_picture 31 = .ok (.aload_n 0, 1) := by decide +kernel
theorem dX12_picture_32 : decode cX12_picture 32 = .ok (.getfield 49, 3) := by decide +kernel
theorem dX12_picture_35 : decode cX12_picture 35 = .ok (.iload_n 1, 1) := by decide +kernel
theorem dX12_picture_36 : decode cX12_picture 36 = .ok (.iaload, 1) := by decide +kernel
theorem dX12_picture_37 : decode cX12_picture 37 = .ok (.goto 14, 3) := by decide +kernel
theorem dX12_picture_40 : decode cX12_picture 40 = .ok (.aload_n 0, 1) := by decide +kernel
theorem dX12_picture_41 : decode cX12_picture 41 = .ok (.getfield 46, 3) := by decide +kernel
theorem dX12_picture_44 : decode cX12_picture 44 = .ok (.bipush 16, 2) := by decide +kernel
theorem dX12_picture_46 : decode cX12_picture 46 = .ok (.iload_n 1, 1) := by decide +kernel
theorem dX12_picture_47 : decode cX12_picture 47 = .ok (.imul, 1) := by decide +kernel
theorem dX12_picture_48 : decode cX12_picture 48 = .ok (.iload_n 2, 1) := by decide +kernel
theorem dX12_picture_49 : decode cX12_picture 49 = .ok (.iadd, 1) := by decide +kernel
theorem dX12_picture_50 : decode cX12_picture 50 = .ok (.iaload, 1) := by decide +kernel
theorem dX12_picture_51 : decode cX12_picture 51 = .ok (.ireturn, 1) := by decide +kernel
theorem dX12_law_0 : decode cX12_law 0 = .ok (.iload_n 1, 1) := by decide +kernel
theorem dX12_law_1 : decode cX12_law 1 = .ok (.iconst (-1), 1) := by decide +kernel
theorem dX12_law_2 : decode cX12_law 2 = .ok (.aload_n 0, 1) := by decide +kernel
theorem dX12_law_3 : decode cX12_law 3 = .ok (.getfield 282, 3) := by decide +kernel
theorem dX12_law_6 : decode cX12_law 6 = .ok (.iconst 1, 1) := by decide +kernel
theorem dX12_law_7 : decode cX12_law 7 = .ok (.isub, 1) := by decide +kernel
theorem dX12_law_8 : decode cX12_law 8 = .ok (.invokestatic 208, 3) := by decide +kernel
theorem dX12_law_11 : decode cX12_law 11 = .ok (.ifCond .ne 5, 3) := by decide +kernel
theorem dX12_law_14 : decode cX12_law 14 = .ok (.iconst 0, 1) := by decide +kernel
theorem dX12_law_15 : decode cX12_law 15 = .ok (.ireturn, 1) := by decide +kernel
theorem dX12_law_16 : decode cX12_law 16 = .ok (.aload_n 0, 1) := by decide +kernel
theorem dX12_law_17 : decode cX12_law 17 = .ok (.iload_n 1, 1) := by decide +kernel
theorem dX12_law_18 : decode cX12_law 18 = .ok (.putfield 58, 3) := by decide +kernel
theorem dX12_law_21 : decode cX12_law 21 = .ok (.iconst 1, 1) := by decide +kernel
theorem dX12_law_22 : decode cX12_law 22 = .ok (.ireturn, 1) := by decide +kernel
theorem dX12_touch_0 : decode cX12_touch 0 = .ok (.iload_n 1, 1) := by decide +kernel
theorem dX12_touch_1 : decode cX12_touch 1 = .ok (.iconst 0, 1) := by decide +kernel
theorem dX12_touch_2 : decode cX12_touch 2 = .ok (.bipush 9, 2) := by decide +kernel
theorem dX12_touch_4 : decode cX12_touch 4 = .ok (.invokestatic 208, 3) := by decide +kernel
theorem dX12_touch_7 : decode cX12_touch 7 = .ok (.ifCond .eq 11, 3) := by decide +kernel
theorem dX12_touch_10 : decode cX12_touch 10 = .ok (.iload_n 1, 1) := by decide +kernel
theorem dX12_touch_11 : decode cX12_touch 11 = .ok (.aload_n 0, 1) := by decide +kernel
theorem dX12_touch_12 : decode cX12_touch 12 = .ok (.getfield 62, 3) := by decide +kernel
theorem dX12_touch_15 : decode cX12_touch 15 = .ok (.if_icmp .ne 5, 3) := by decide +kernel
theorem dX12_touch_18 : decode cX12_touch 18 = .ok (.iconst 0, 1) := by decide +kernel
theorem dX12_touch_19 : decode cX12_touch 19 = .ok (.ireturn, 1) := by decide +kernel
theorem dX12_touch_20 : decode cX12_touch 20 = .ok (.aload_n 0, 1) := by decide +kernel
theorem dX12_touch_21 : decode cX12_touch 21 = .ok (.iload_n 1, 1) := by decide +kernel
theorem dX12_touch_22 : decode cX12_touch 22 = .ok (.putfield 62, 3) := by decide +kernel
theorem dX12_touch_25 : decode cX12_touch 25 = .ok (.iconst 1, 1) := by decide +kernel
theorem dX12_touch_26 : decode cX12_touch 26 = .ok (.ireturn, 1) := by decide +kernel
theorem dX12_keep_0 : decode cX12_keep 0 = .ok (.aload_n 0, 1) := by decide +kernel
theorem dX12_keep_1 : decode cX12_keep 1 = .ok (.getfield 272, 3) := by decide +kernel
theorem dX12_keep_4 : decode cX12_keep 4 = .ok (.bipush 40, 2) := by decide +kernel
theorem dX12_keep_6 : decode cX12_keep 6 = .ok (.if_icmp .ne 46, 3) := by decide +kernel
theorem dX12_keep_9 : decode cX12_keep 9 = .ok (.sipush 261, 3) := by decide +kernel
theorem dX12_keep_12 : decode cX12_keep 12 = .ok (.istore_n 1, 1) := by decide +kernel
theorem dX12_keep_13 : decode cX12_keep 13 = .ok (.iload_n 1, 1) := by decide +kernel
theorem dX12_keep_14 : decode cX12_keep 14 = .ok (.sipush 10440, 3) := by decide +kernel
theorem dX12_keep_17 : decode cX12_keep 17 = .ok (.if_icmp .ge 25, 3) := by decide +kernel
theorem dX12_keep_20 : decode cX12_keep 20 = .ok (.aload_n 0, 1) := by decide +kernel
theorem dX12_keep_21 : decode cX12_keep 21 = .ok (.getfield 65, 3) := by decide +kernel
theorem dX12_keep_24 : decode cX12_keep 24 = .ok (.iload_n 1, 1) := by decide +kernel
theorem dX12_keep_25 : decode cX12_keep 25 = .ok (.sipush 261, 3) := by decide +kernel
theorem dX12_keep_28 : decode cX12_keep 28 = .ok (.isub, 1) := by decide +kernel
theorem dX12_keep_29 : decode cX12_keep 29 = .ok (.aload_n 0, 1) := by decide +kernel
theorem dX12_keep_30 : decode cX12_keep 30 = .ok (.getfield 65, 3) := by decide +kernel
theorem dX12_keep_33 : decode cX12_keep 33 = .ok (.iload_n 1, 1) := by decide +kernel
theorem dX12_keep_34 : decode cX12_keep 34 = .ok (.iaload, 1) := by decide +kernel
theorem dX12_keep_35 : decode cX12_keep 35 = .ok (.iastore, 1) := by decide +kernel
theorem dX12_keep_36 : decode cX12_keep 36 = .ok (.iinc 1 1, 3) := by decide +kernel
theorem dX12_keep_39 : decode cX12_keep 39 = .ok (.goto (-26), 3) := by decide +kernel
theorem dX12_keep_42 : decode cX12_keep 42 = .ok (.aload_n 0, 1) := by decide +kernel
theorem dX12_keep_43 : decode cX12_keep 43 = .ok (.dup, 1) := by decide +kernel
theorem dX12_keep_44 : decode cX12_keep 44 = .ok (.getfield 272, 3) := by decide +kernel
theorem dX12_keep_47 : decode cX12_keep 47 = .ok (.iconst 1, 1) := by decide +kernel
theorem dX12_keep_48 : decode cX12_keep 48 = .ok (.isub, 1) := by decide +kernel
theorem dX12_keep_49 : decode cX12_keep 49 = .ok (.putfield 272, 3) := by decide +kernel
theorem dX12_keep_52 : decode cX12_keep 52 = .ok (.iconst 0, 1) := by decide +kernel
theorem dX12_keep_53 : decode cX12_keep 53 = .ok (.istore_n 1, 1) := by decide +kernel
theorem dX12_keep_54 : decode cX12_keep 54 = .ok (.iload_n 1, 1) := by decide +kernel
theorem dX12_keep_55 : decode cX12_keep 55 = .ok (.sipush 261, 3) := by decide +kernel
theorem dX12_keep_58 : decode cX12_keep 58 = .ok (.if_icmp .ge 30, 3) := by decide +kernel
theorem dX12_keep_61 : decode cX12_keep 61 = .ok (.aload_n 0, 1) := by decide +kernel
theorem dX12_keep_62 : decode cX12_keep 62 = .ok (.getfield 65, 3) := by decide +kernel
theorem dX12_keep_65 : decode cX12_keep 65 = .ok (.sipush 261, 3) := by decide +kernel
theorem dX12_keep_68 : decode cX12_keep 68 = .ok (.aload_n 0, 1) := by decide +kernel
theorem dX12_keep_69 : decode cX12_keep 69 = .ok (.getfield 272, 3) := by decide +kernel
theorem dX12_keep_72 : decode cX12_keep 72 = .ok (.imul, 1) := by decide +kernel
theorem dX12_keep_73 : decode cX12_keep 73 = .ok (.iload_n 1, 1) := by decide +kernel
theorem dX12_keep_74 : decode cX12_keep 74 = .ok (.iadd, 1) := by decide +kernel
theorem dX12_keep_75 : decode cX12_keep 75 = .ok (.aload_n 0, 1) := by decide +kernel
theorem dX12_keep_76 : decode cX12_keep 76 = .ok (.getfield 52, 3) := by decide +kernel
theorem dX12_keep_79 : decode cX12_keep 79 = .ok (.iload_n 1, 1) := by decide +kernel
theorem dX12_keep_80 : decode cX12_keep 80 = .ok (.iaload, 1) := by decide +kernel
theorem dX12_keep_81 : decode cX12_keep 81 = .ok (.iastore, 1) := by decide +kernel
theorem dX12_keep_82 : decode cX12_keep 82 = .ok (.iinc 1 1, 3) := by decide +kernel
theorem dX12_keep_85 : decode cX12_keep 85 = .ok (.goto (-31), 3) := by decide +kernel
theorem dX12_keep_88 : decode cX12_keep 88 = .ok (.aload_n 0, 1) := by decide +kernel
theorem dX12_keep_89 : decode cX12_keep 89 = .ok (.dup, 1) := by decide +kernel
theorem dX12_keep_90 : decode cX12_keep 90 = .ok (.getfield 272, 3) := by decide +kernel
theorem dX12_keep_93 : decode cX12_keep 93 = .ok (.iconst 1, 1) := by decide +kernel
theorem dX12_keep_94 : decode cX12_keep 94 = .ok (.iadd, 1) := by decide +kernel
theorem dX12_keep_95 : decode cX12_keep 95 = .ok (.putfield 272, 3) := by decide +kernel
theorem dX12_keep_98 : decode cX12_keep 98 = .ok (.return_, 1) := by decide +kernel
theorem dX12_isRefused_0 : decode cX12_isRefused 0 = .ok (.iload_n 1, 1) := by decide +kernel
theorem dX12_isRefused_1 : decode cX12_isRefused 1 = .ok (.iconst (-1), 1) := by decide +kernel
theorem dX12_isRefused_2 : decode cX12_isRefused 2 = .ok (.if_icmp .eq 13, 3) := by decide +kernel
theorem dX12_isRefused_5 : decode cX12_isRefused 5 = .ok (.aload_n 0, 1) := by decide +kernel
theorem dX12_isRefused_6 : decode cX12_isRefused 6 = .ok (.getfield 55, 3) := by decide +kernel
theorem dX12_isRefused_9 : decode cX12_isRefused 9 = .ok (.iload_n 1, 1) := by decide +kernel
theorem dX12_isRefused_10 : decode cX12_isRefused 10 = .ok (.dup2, 1) := by decide +kernel
theorem dX12_isRefused_11 : decode cX12_isRefused 11 = .ok (.iaload, 1) := by decide +kernel
theorem dX12_isRefused_12 : decode cX12_isRefused 12 = .ok (.iconst 1, 1) := by decide +kernel
theorem dX12_isRefused_13 : decode cX12_isRefused 13 = .ok (.iadd, 1) := by decide +kernel
theorem dX12_isRefused_14 : decode cX12_isRefused 14 = .ok (.iastore, 1) := by decide +kernel
theorem dX12_isRefused_15 : decode cX12_isRefused 15 = .ok (.iload_n 1, 1) := by decide +kernel
theorem dX12_isRefused_16 : decode cX12_isRefused 16 = .ok (.iconst (-1), 1) := by decide +kernel
theorem dX12_isRefused_17 : decode cX12_isRefused 17 = .ok (.if_icmp .eq 7, 3) := by decide +kernel
theorem dX12_isRefused_20 : decode cX12_isRefused 20 = .ok (.iconst 1, 1) := by decide +kernel
theorem dX12_isRefused_21 : decode cX12_isRefused 21 = .ok (.goto 4, 3) := by decide +kernel
theorem dX12_isRefused_24 : decode cX12_isRefused 24 = .ok (.iconst 0, 1) := by decide +kernel
theorem dX12_isRefused_25 : decode cX12_isRefused 25 = .ok (.ireturn, 1) := by decide +kernel
theorem dX12_areTicks_0 : decode cX12_areTicks 0 = .ok (.iload_n 1, 1) := by decide +kernel
theorem dX12_areTicks_1 : decode cX12_areTicks 1 = .ok (.iconst 1, 1) := by decide +kernel
theorem dX12_areTicks_2 : decode cX12_areTicks 2 = .ok (.bipush 60, 2) := by decide +kernel
theorem dX12_areTicks_4 : decode cX12_areTicks 4 = .ok (.invokestatic 208, 3) := by decide +kernel
theorem dX12_areTicks_7 : decode cX12_areTicks 7 = .ok (.ifCond .eq 22, 3) := by decide +kernel
theorem dX12_areTicks_10 : decode cX12_areTicks 10 = .ok (.aload_n 0, 1) := by decide +kernel
theorem dX12_areTicks_11 : decode cX12_areTicks 11 = .ok (.getfield 52, 3) := by decide +kernel
theorem dX12_areTicks_14 : decode cX12_areTicks 14 = .ok (.bipush 19, 2) := by decide +kernel
theorem dX12_areTicks_16 : decode cX12_areTicks 16 = .ok (.iaload, 1) := by decide +kernel
theorem dX12_areTicks_17 : decode cX12_areTicks 17 = .ok (.iload_n 1, 1) := by decide +kernel
theorem dX12_areTicks_18 : decode cX12_areTicks 18 = .ok (.iadd, 1) := by decide +kernel
theorem dX12_areTicks_19 : decode cX12_areTicks 19 = .ok (.sipush 9999, 3) := by decide +kernel
theorem dX12_areTicks_22 : decode cX12_areTicks 22 = .ok (.if_icmp .gt 7, 3) := by decide +kernel
theorem dX12_areTicks_25 : decode cX12_areTicks 25 = .ok (.iconst 1, 1) := by decide +kernel
theorem dX12_areTicks_26 : decode cX12_areTicks 26 = .ok (.goto 4, 3) := by decide +kernel
theorem dX12_areTicks_29 : decode cX12_areTicks 29 = .ok (.iconst 0, 1) := by decide +kernel
theorem dX12_areTicks_30 : decode cX12_areTicks 30 = .ok (.ireturn, 1) := by decide +kernel
theorem dX12_ticks_0 : decode cX12_ticks 0 = .ok (.aload_n 0, 1) := by decide +kernel
theorem dX12_ticks_1 : decode cX12_ticks 1 = .ok (.aload_n 0, 1) := by decide +kernel
theorem dX12_ticks_2 : decode cX12_ticks 2 = .ok (.getfield 263, 3) := by decide +kernel
theorem dX12_ticks_5 : decode cX12_ticks 5 = .ok (.ifCond .ne 7, 3) := by decide +kernel
theorem dX12_ticks_8 : decode cX12_ticks 8 = .ok (.iconst 0, 1) := by decide +kernel
theorem dX12_ticks_9 : decode cX12_ticks 9 = .ok (.goto 30, 3) := by decide +kernel
theorem dX12_ticks_12 : decode cX12_ticks 12 = .ok (.iload_n 1, 1) := by decide +kernel
theorem dX12_ticks_13 : decode cX12_ticks 13 = .ok (.iconst 1, 1) := by decide +kernel
theorem dX12_ticks_14 : decode cX12_ticks 14 = .ok (.bipush 60, 2) := by decide +kernel
theorem dX12_ticks_16 : decode cX12_ticks 16 = .ok (.invokestatic 208, 3) := by decide +kernel
theorem dX12_ticks_19 : decode cX12_ticks 19 = .ok (.ifCond .ne 7, 3) := by decide +kernel
theorem dX12_ticks_22 : decode cX12_ticks 22 = .ok (.iconst 1, 1) := by decide +kernel
theorem dX12_ticks_23 : decode cX12_ticks 23 = .ok (.goto 16, 3) := by decide +kernel
theorem dX12_ticks_26 : decode cX12_ticks 26 = .ok (.aload_n 0, 1) := by decide +kernel
theorem dX12_ticks_27 : decode cX12_ticks 27 = .ok (.iload_n 1, 1) := by decide +kernel
theorem dX12_ticks_28 : decode cX12_ticks 28 = .ok (.invokevirtual 313, 3) := by decide +kernel
theorem dX12_ticks_31 : decode cX12_ticks 31 = .ok (.ifCond .ne 7, 3) := by decide +kernel
theorem dX12_ticks_34 : decode cX12_ticks 34 = .ok (.iconst 4, 1) := by decide +kernel
theorem dX12_ticks_35 : decode cX12_ticks 35 = .ok (.goto 4, 3) := by decide +kernel
theorem dX12_ticks_38 : decode cX12_ticks 38 = .ok (.iconst (-1), 1) := by decide +kernel
theorem dX12_ticks_39 : decode cX12_ticks 39 = .ok (.invokevirtual 316, 3) := by decide +kernel
theorem dX12_ticks_42 : decode cX12_ticks 42 = .ok (.ifCond .eq 5, 3) := by decide +kernel
theorem dX12_ticks_45 : decode cX12_ticks 45 = .ok (.iconst (-1), 1) := by decide +kernel
theorem dX12_ticks_46 : decode cX12_ticks 46 = .ok (.ireturn, 1) := by decide +kernel
theorem dX12_ticks_47 : decode cX12_ticks 47 = .ok (.iconst 0, 1) := by decide +kernel
theorem dX12_ticks_48 : decode cX12_ticks 48 = .ok (.istore_n 2, 1) := by decide +kernel
theorem dX12_ticks_49 : decode cX12_ticks 49 = .ok (.iload_n 2, 1) := by decide +kernel
theorem dX12_ticks_50 : decode cX12_ticks 50 = .ok (.iload_n 1, 1) := by decide +kernel
theorem dX12_ticks_51 : decode cX12_ticks 51 = .ok (.if_icmp .ge 17, 3) := by decide +kernel
theorem dX12_ticks_54 : decode cX12_ticks 54 = .ok (.aload_n 0, 1) := by decide +kernel
theorem dX12_ticks_55 : decode cX12_ticks 55 = .ok (.invokevirtual 319, 3) := by decide +kernel
theorem dX12_ticks_58 : decode cX12_ticks 58 = .ok (.aload_n 0, 1) := by decide +kernel
theorem dX12_ticks_59 : decode cX12_ticks 59 = .ok (.invokevirtual 322, 3) := by decide +kernel
theorem dX12_ticks_62 : decode cX12_ticks 62 = .ok (.iinc 2 1, 3) := by decide +kernel
theorem dX12_ticks_65 : decode cX12_ticks 65 = .ok (.goto (-16), 3) := by decide +kernel
theorem dX12_ticks_68 : decode cX12_ticks 68 = .ok (.aload_n 0, 1) := by decide +kernel
theorem dX12_ticks_69 : decode cX12_ticks 69 = .ok (.getfield 52, 3) := by decide +kernel
theorem dX12_ticks_72 : decode cX12_ticks 72 = .ok (.bipush 19, 2) := by decide +kernel
theorem dX12_ticks_74 : decode cX12_ticks 74 = .ok (.iaload, 1) := by decide +kernel
theorem dX12_ticks_75 : decode cX12_ticks 75 = .ok (.ireturn, 1) := by decide +kernel
theorem dX12_flash_0 : decode cX12_flash 0 = .ok (.aload_n 0, 1) := by decide +kernel
theorem dX12_flash_1 : decode cX12_flash 1 = .ok (.aload_n 0, 1) := by decide +kernel
theorem dX12_flash_2 : decode cX12_flash 2 = .ok (.getfield 263, 3) := by decide +kernel
theorem dX12_flash_5 : decode cX12_flash 5 = .ok (.ifCond .ne 7, 3) := by decide +kernel
theorem dX12_flash_8 : decode cX12_flash 8 = .ok (.iconst 0, 1) := by decide +kernel
theorem dX12_flash_9 : decode cX12_flash 9 = .ok (.goto 33, 3) := by decide +kernel
theorem dX12_flash_12 : decode cX12_flash 12 = .ok (.iload_n 1, 1) := by decide +kernel
theorem dX12_flash_13 : decode cX12_flash 13 = .ok (.iconst 1, 1) := by decide +kernel
theorem dX12_flash_14 : decode cX12_flash 14 = .ok (.bipush 60, 2) := by decide +kernel
theorem dX12_flash_16 : decode cX12_flash 16 = .ok (.invokestatic 208, 3) := by decide +kernel
theorem dX12_flash_19 : decode cX12_flash 19 = .ok (.ifCond .ne 7, 3) := by decide +kernel
theorem dX12_flash_22 : decode cX12_flash 22 = .ok (.iconst 1, 1) := by decide +kernel
theorem dX12_flash_23 : decode cX12_flash 23 = .ok (.goto 19, 3) := by decide +kernel
theorem dX12_flash_26 : decode cX12_flash 26 = .ok (.iload_n 1, 1) := by decide +kernel
theorem dX12_flash_27 : decode cX12_flash 27 = .ok (.aload_n 0, 1) := by decide +kernel
theorem dX12_flash_28 : decode cX12_flash 28 = .ok (.getfield 52, 3) := by decide +kernel
theorem dX12_flash_31 : decode cX12_flash 31 = .ok (.bipush 16, 2) := by decide +kernel
theorem dX12_flash_33 : decode cX12_flash 33 = .ok (.iaload, 1) := by decide +kernel
theorem dX12_flash_34 : decode cX12_flash 34 = .ok (.if_icmp .ne 7, 3) := by decide +kernel
theorem dX12_flash_37 : decode cX12_flash 37 = .ok (.iconst 2, 1) := by decide +kernel
theorem dX12_flash_38 : decode cX12_flash 38 = .ok (.goto 4, 3) := by decide +kernel
theorem dX12_flash_41 : decode cX12_flash 41 = .ok (.iconst (-1), 1) := by decide +kernel
theorem dX12_flash_42 : decode cX12_flash 42 = .ok (.invokevirtual 316, 3) := by decide +kernel
theorem dX12_flash_45 : decode cX12_flash 45 = .ok (.ifCond .eq 5, 3) := by decide +kernel
theorem dX12_flash_48 : decode cX12_flash 48 = .ok (.iconst (-1), 1) := by decide +kernel
theorem dX12_flash_49 : decode cX12_flash 49 = .ok (.ireturn, 1) := by decide +kernel
theorem dX12_flash_50 : decode cX12_flash 50 = .ok (.aload_n 0, 1) := by decide +kernel
theorem dX12_flash_51 : decode cX12_flash 51 = .ok (.invokevirtual 319, 3) := by decide +kernel
theorem dX12_flash_54 : decode cX12_flash 54 = .ok (.aload_n 0, 1) := by decide +kernel
theorem dX12_flash_55 : decode cX12_flash 55 = .ok (.getfield 52, 3) := by decide +kernel
theorem dX12_flash_58 : decode cX12_flash 58 = .ok (.bipush 16, 2) := by decide +kernel
theorem dX12_flash_60 : decode cX12_flash 60 = .ok (.iaload, 1) := by decide +kernel
theorem dX12_flash_61 : decode cX12_flash 61 = .ok (.istore_n 2, 1) := by decide +kernel
theorem dX12_flash_62 : decode cX12_flash 62 = .ok (.aload_n 0, 1) := by decide +kernel
theorem dX12_flash_63 : decode cX12_flash 63 = .ok (.getfield 52, 3) := by decide +kernel
theorem dX12_flash_66 : decode cX12_flash 66 = .ok (.bipush 16, 2) := by decide +kernel
theorem dX12_flash_68 : decode cX12_flash 68 = .ok (.iload_n 1, 1) := by decide +kernel
theorem dX12_flash_69 : decode cX12_flash 69 = .ok (.iastore, 1) := by decide +kernel
theorem dX12_flash_70 : decode cX12_flash 70 = .ok (.iload_n 2, 1) := by decide +kernel
theorem dX12_flash_71 : decode cX12_flash 71 = .ok (.ireturn, 1) := by decide +kernel
theorem dX12_speed_0 : decode cX12_speed 0 = .ok (.aload_n 0, 1) := by decide +kernel
theorem dX12_speed_1 : decode cX12_speed 1 = .ok (.aload_n 0, 1) := by decide +kernel
theorem dX12_speed_2 : decode cX12_speed 2 = .ok (.iload_n 1, 1) := by decide +kernel
theorem dX12_speed_3 : decode cX12_speed 3 = .ok (.invokevirtual 307, 3) := by decide +kernel
theorem dX12_speed_6 : decode cX12_speed 6 = .ok (.ifCond .ne 7, 3) := by decide +kernel
theorem dX12_speed_9 : decode cX12_speed 9 = .ok (.iconst 0, 1) := by decide +kernel
theorem dX12_speed_10 : decode cX12_speed 10 = .ok (.goto 47, 3) := by decide +kernel
theorem dX12_speed_13 : decode cX12_speed 13 = .ok (.iload_n 2, 1) := by decide +kernel
theorem dX12_speed_14 : decode cX12_speed 14 = .ok (.iconst 0, 1) := by decide +kernel
theorem dX12_speed_15 : decode cX12_speed 15 = .ok (.bipush 9, 2) := by decide +kernel
theorem dX12_speed_17 : decode cX12_speed 17 = .ok (.invokestatic 208, 3) := by decide +kernel
theorem dX12_speed_20 : decode cX12_speed 20 = .ok (.ifCond .ne 7, 3) := by decide +kernel
theorem dX12_speed_23 : decode cX12_speed 23 = .ok (.iconst 1, 1) := by decide +kernel
theorem dX12_speed_24 : decode cX12_speed 24 = .ok (.goto 33, 3) := by decide +kernel
theorem dX12_speed_27 : decode cX12_speed 27 = .ok (.iload_n 2, 1) := by decide +kernel
theorem dX12_speed_28 : decode cX12_speed 28 = .ok (.aload_n 0, 1) := by decide +kernel
theorem dX12_speed_29 : decode cX12_speed 29 = .ok (.iload_n 1, 1) := by decide +kernel
theorem dX12_speed_30 : decode cX12_speed 30 = .ok (.iconst 0, 1) := by decide +kernel
theorem dX12_speed_31 : decode cX12_speed 31 = .ok (.invokevirtual 254, 3) := by decide +kernel
theorem dX12_speed_34 : decode cX12_speed 34 = .ok (.if_icmp .ne 7, 3) := by decide +kernel
theorem dX12_speed_37 : decode cX12_speed 37 = .ok (.iconst 2, 1) := by decide +kernel
theorem dX12_speed_38 : decode cX12_speed 38 = .ok (.goto 19, 3) := by decide +kernel
theorem dX12_speed_41 : decode cX12_speed 41 = .ok (.aload_n 0, 1) := by decide +kernel
theorem dX12_speed_42 : decode cX12_speed 42 = .ok (.getfield 52, 3) := by decide +kernel
theorem dX12_speed_45 : decode cX12_speed 45 = .ok (.bipush 18, 2) := by decide +kernel
theorem dX12_speed_47 : decode cX12_speed 47 = .ok (.iaload, 1) := by decide +kernel
theorem dX12_speed_48 : decode cX12_speed 48 = .ok (.iconst 1, 1) := by decide +kernel
theorem dX12_speed_49 : decode cX12_speed 49 = .ok (.if_icmp .ge 7, 3) := by decide +kernel
theorem dX12_speed_52 : decode cX12_speed 52 = .ok (.iconst 3, 1) := by decide +kernel
theorem dX12_speed_53 : decode cX12_speed 53 = .ok (.goto 4, 3) := by decide +kernel
theorem dX12_speed_56 : decode cX12_speed 56 = .ok (.iconst (-1), 1) := by decide +kernel
theorem dX12_speed_57 : decode cX12_speed 57 = .ok (.invokevirtual 316, 3) := by decide +kernel
theorem dX12_speed_60 : decode cX12_speed 60 = .ok (.ifCond .eq 5, 3) := by decide +kernel
theorem dX12_speed_63 : decode cX12_speed 63 = .ok (.iconst (-1), 1) := by decide +kernel
theorem dX12_speed_64 : decode cX12_speed 64 = .ok (.ireturn, 1) := by decide +kernel
theorem dX12_speed_65 : decode cX12_speed 65 = .ok (.aload_n 0, 1) := by decide +kernel
theorem dX12_speed_66 : decode cX12_speed 66 = .ok (.invokevirtual 319, 3) := by decide +kernel
theorem dX12_speed_69 : decode cX12_speed 69 = .ok (.aload_n 0, 1) := by decide +kernel
theorem dX12_speed_70 : decode cX12_speed 70 = .ok (.iload_n 1, 1) := by decide +kernel
theorem dX12_speed_71 : decode cX12_speed 71 = .ok (.iconst 0, 1) := by decide +kernel
theorem dX12_speed_72 : decode cX12_speed 72 = .ok (.invokevirtual 254, 3) := by decide +kernel
theorem dX12_speed_75 : decode cX12_speed 75 = .ok (.istore_n 3, 1) := by decide +kernel
theorem dX12_speed_76 : decode cX12_speed 76 = .ok (.aload_n 0, 1) := by decide +kernel
theorem dX12_speed_77 : decode cX12_speed 77 = .ok (.getfield 52, 3) := by decide +kernel
theorem dX12_speed_80 : decode cX12_speed 80 = .ok (.bipush 18, 2) := by decide +kernel
theorem dX12_speed_82 : decode cX12_speed 82 = .ok (.dup2, 1) := by decide +kernel
theorem dX12_speed_83 : decode cX12_speed 83 = .ok (.iaload, 1) := by decide +kernel
theorem dX12_speed_84 : decode cX12_speed 84 = .ok (.iconst 1, 1) := by decide +kernel
theorem dX12_speed_85 : decode cX12_speed 85 = .ok (.isub, 1) := by decide +kernel
theorem dX12_speed_86 : decode cX12_speed 86 = .ok (.iastore, 1) := by decide +kernel
theorem dX12_speed_87 : decode cX12_speed 87 = .ok (.aload_n 0, 1) := by decide +kernel
theorem dX12_speed_88 : decode cX12_speed 88 = .ok (.getfield 52, 3) := by decide +kernel
theorem dX12_speed_91 : decode cX12_speed 91 = .ok (.iconst 4, 1) := by decide +kernel
theorem dX12_speed_92 : decode cX12_speed 92 = .ok (.iload_n 1, 1) := by decide +kernel
theorem dX12_speed_93 : decode cX12_speed 93 = .ok (.imul, 1) := by decide +kernel
theorem dX12_speed_94 : decode cX12_speed 94 = .ok (.iconst 0, 1) := by decide +kernel
theorem dX12_speed_95 : decode cX12_speed 95 = .ok (.iadd, 1) := by decide +kernel
theorem dX12_speed_96 : decode cX12_speed 96 = .ok (.iload_n 2, 1) := by decide +kernel
theorem dX12_speed_97 : decode cX12_speed 97 = .ok (.iastore, 1) := by decide +kernel
theorem dX12_speed_98 : decode cX12_speed 98 = .ok (.iload_n 3, 1) := by decide +kernel
theorem dX12_speed_99 : decode cX12_speed 99 = .ok (.ireturn, 1) := by decide +kernel
theorem dX12_about_0 : decode cX12_about 0 = .ok (.aload_n 0, 1) := by decide +kernel
theorem dX12_about_1 : decode cX12_about 1 = .ok (.aload_n 0, 1) := by decide +kernel
theorem dX12_about_2 : decode cX12_about 2 = .ok (.iload_n 1, 1) := by decide +kernel
theorem dX12_about_3 : decode cX12_about 3 = .ok (.invokevirtual 307, 3) := by decide +kernel
theorem dX12_about_6 : decode cX12_about 6 = .ok (.ifCond .eq 7, 3) := by decide +kernel
theorem dX12_about_9 : decode cX12_about 9 = .ok (.iconst (-1), 1) := by decide +kernel
theorem dX12_about_10 : decode cX12_about 10 = .ok (.goto 4, 3) := by decide +kernel
theorem dX12_about_13 : decode cX12_about 13 = .ok (.iconst 0, 1) := by decide +kernel
theorem dX12_about_14 : decode cX12_about 14 = .ok (.invokevirtual 316, 3) := by decide +kernel
theorem dX12_about_17 : decode cX12_about 17 = .ok (.ifCond .eq 5, 3) := by decide +kernel
theorem dX12_about_20 : decode cX12_about 20 = .ok (.iconst (-1), 1) := by decide +kernel
theorem dX12_about_21 : decode cX12_about 21 = .ok (.ireturn, 1) := by decide +kernel
theorem dX12_about_22 : decode cX12_about 22 = .ok (.aload_n 0, 1) := by decide +kernel
theorem dX12_about_23 : decode cX12_about 23 = .ok (.invokevirtual 319, 3) := by decide +kernel
theorem dX12_about_26 : decode cX12_about 26 = .ok (.aload_n 0, 1) := by decide +kernel
theorem dX12_about_27 : decode cX12_about 27 = .ok (.getfield 52, 3) := by decide +kernel
theorem dX12_about_30 : decode cX12_about 30 = .ok (.iconst 4, 1) := by decide +kernel
theorem dX12_about_31 : decode cX12_about 31 = .ok (.iload_n 1, 1) := by decide +kernel
theorem dX12_about_32 : decode cX12_about 32 = .ok (.imul, 1) := by decide +kernel
theorem dX12_about_33 : decode cX12_about 33 = .ok (.iconst 1, 1) := by decide +kernel
theorem dX12_about_34 : decode cX12_about 34 = .ok (.iadd, 1) := by decide +kernel
theorem dX12_about_35 : decode cX12_about 35 = .ok (.iconst 1, 1) := by decide +kernel
theorem dX12_about_36 : decode cX12_about 36 = .ok (.aload_n 0, 1) := by decide +kernel
theorem dX12_about_37 : decode cX12_about 37 = .ok (.iload_n 1, 1) := by decide +kernel
theorem dX12_about_38 : decode cX12_about 38 = .ok (.iconst 1, 1) := by decide +kernel
theorem dX12_about_39 : decode cX12_about 39 = .ok (.invokevirtual 254, 3) := by decide +kernel
theorem dX12_about_42 : decode cX12_about 42 = .ok (.isub, 1) := by decide +kernel
theorem dX12_about_43 : decode cX12_about 43 = .ok (.iastore, 1) := by decide +kernel
theorem dX12_about_44 : decode cX12_about 44 = .ok (.aload_n 0, 1) := by decide +kernel
theorem dX12_about_45 : decode cX12_about 45 = .ok (.iload_n 1, 1) := by decide +kernel
theorem dX12_about_46 : decode cX12_about 46 = .ok (.iconst 1, 1) := by decide +kernel
theorem dX12_about_47 : decode cX12_about 47 = .ok (.invokevirtual 254, 3) := by decide +kernel
theorem dX12_about_50 : decode cX12_about 50 = .ok (.ireturn, 1) := by decide +kernel
theorem dX12_pushNow_0 : decode cX12_pushNow 0 = .ok (.aload_n 0, 1) := by decide +kernel
theorem dX12_pushNow_1 : decode cX12_pushNow 1 = .ok (.getfield 52, 3) := by decide +kernel
theorem dX12_pushNow_4 : decode cX12_pushNow 4 = .ok (.iconst 4, 1) := by decide +kernel
theorem dX12_pushNow_5 : decode cX12_pushNow 5 = .ok (.iload_n 1, 1) := by decide +kernel
theorem dX12_pushNow_6 : decode cX12_pushNow 6 = .ok (.imul, 1) := by decide +kernel
theorem dX12_pushNow_7 : decode cX12_pushNow 7 = .ok (.iconst 2, 1) := by decide +kernel
theorem dX12_pushNow_8 : decode cX12_pushNow 8 = .ok (.iadd, 1) := by decide +kernel
theorem dX12_pushNow_9 : decode cX12_pushNow 9 = .ok (.aload_n 0, 1) := by decide +kernel
theorem dX12_pushNow_10 : decode cX12_pushNow 10 = .ok (.iload_n 1, 1) := by decide +kernel
theorem dX12_pushNow_11 : decode cX12_pushNow 11 = .ok (.iconst 2, 1) := by decide +kernel
theorem dX12_pushNow_12 : decode cX12_pushNow 12 = .ok (.invokevirtual 254, 3) := by decide +kernel
theorem dX12_pushNow_15 : decode cX12_pushNow 15 = .ok (.iload_n 2, 1) := by decide +kernel
theorem dX12_pushNow_16 : decode cX12_pushNow 16 = .ok (.iadd, 1) := by decide +kernel
theorem dX12_pushNow_17 : decode cX12_pushNow 17 = .ok (.aload_n 0, 1) := by decide +kernel
theorem dX12_pushNow_18 : decode cX12_pushNow 18 = .ok (.iload_n 1, 1) := by decide +kernel
theorem dX12_pushNow_19 : decode cX12_pushNow 19 = .ok (.invokevirtual 266, 3) := by decide +kernel
theorem dX12_pushNow_22 : decode cX12_pushNow 22 = .ok (.invokestatic 295, 3) := by decide +kernel
theorem dX12_pushNow_25 : decode cX12_pushNow 25 = .ok (.iastore, 1) := by decide +kernel
theorem dX12_pushNow_26 : decode cX12_pushNow 26 = .ok (.return_, 1) := by decide +kernel
theorem dX12_push_0 : decode cX12_push 0 = .ok (.aload_n 0, 1) := by decide +kernel
theorem dX12_push_1 : decode cX12_push 1 = .ok (.aload_n 0, 1) := by decide +kernel
theorem dX12_push_2 : decode cX12_push 2 = .ok (.iload_n 1, 1) := by decide +kernel
theorem dX12_push_3 : decode cX12_push 3 = .ok (.invokevirtual 307, 3) := by decide +kernel
theorem dX12_push_6 : decode cX12_push 6 = .ok (.ifCond .ne 7, 3) := by decide +kernel
theorem dX12_push_9 : decode cX12_push 9 = .ok (.iconst 0, 1) := by decide +kernel
theorem dX12_push_10 : decode cX12_push 10 = .ok (.goto 33, 3) := by decide +kernel
theorem dX12_push_13 : decode cX12_push 13 = .ok (.iload_n 2, 1) := by decide +kernel
theorem dX12_push_14 : decode cX12_push 14 = .ok (.iconst 1, 1) := by decide +kernel
theorem dX12_push_15 : decode cX12_push 15 = .ok (.bipush 9, 2) := by decide +kernel
theorem dX12_push_17 : decode cX12_push 17 = .ok (.invokestatic 208, 3) := by decide +kernel
theorem dX12_push_20 : decode cX12_push 20 = .ok (.ifCond .ne 7, 3) := by decide +kernel
theorem dX12_push_23 : decode cX12_push 23 = .ok (.iconst 1, 1) := by decide +kernel
theorem dX12_push_24 : decode cX12_push 24 = .ok (.goto 19, 3) := by decide +kernel
theorem dX12_push_27 : decode cX12_push 27 = .ok (.aload_n 0, 1) := by decide +kernel
theorem dX12_push_28 : decode cX12_push 28 = .ok (.getfield 52, 3) := by decide +kernel
theorem dX12_push_31 : decode cX12_push 31 = .ok (.bipush 18, 2) := by decide +kernel
theorem dX12_push_33 : decode cX12_push 33 = .ok (.iaload, 1) := by decide +kernel
theorem dX12_push_34 : decode cX12_push 34 = .ok (.iconst 1, 1) := by decide +kernel
theorem dX12_push_35 : decode cX12_push 35 = .ok (.if_icmp .ge 7, 3) := by decide +kernel
theorem dX12_push_38 : decode cX12_push 38 = .ok (.iconst 3, 1) := by decide +kernel
theorem dX12_push_39 : decode cX12_push 39 = .ok (.goto 4, 3) := by decide +kernel
theorem dX12_push_42 : decode cX12_push 42 = .ok (.iconst (-1), 1) := by decide +kernel
theorem dX12_push_43 : decode cX12_push 43 = .ok (.invokevirtual 316, 3) := by decide +kernel
theorem dX12_push_46 : decode cX12_push 46 = .ok (.ifCond .eq 5, 3) := by decide +kernel
theorem dX12_push_49 : decode cX12_push 49 = .ok (.iconst (-1), 1) := by decide +kernel
theorem dX12_push_50 : decode cX12_push 50 = .ok (.ireturn, 1) := by decide +kernel
theorem dX12_push_51 : decode cX12_push 51 = .ok (.aload_n 0, 1) := by decide +kernel
theorem dX12_push_52 : decode cX12_push 52 = .ok (.invokevirtual 319, 3) := by decide +kernel
theorem dX12_push_55 : decode cX12_push 55 = .ok (.aload_n 0, 1) := by decide +kernel
theorem dX12_push_56 : decode cX12_push 56 = .ok (.getfield 52, 3) := by decide +kernel
theorem dX12_push_59 : decode cX12_push 59 = .ok (.bipush 18, 2) := by decide +kernel
theorem dX12_push_61 : decode cX12_push 61 = .ok (.dup2, 1) := by decide +kernel
theorem dX12_push_62 : decode cX12_push 62 = .ok (.iaload, 1) := by decide +kernel
theorem dX12_push_63 : decode cX12_push 63 = .ok (.iconst 1, 1) := by decide +kernel
theorem dX12_push_64 : decode cX12_push 64 = .ok (.isub, 1) := by decide +kernel
theorem dX12_push_65 : decode cX12_push 65 = .ok (.iastore, 1) := by decide +kernel
theorem dX12_push_66 : decode cX12_push 66 = .ok (.aload_n 0, 1) := by decide +kernel
theorem dX12_push_67 : decode cX12_push 67 = .ok (.iload_n 1, 1) := by decide +kernel
theorem dX12_push_68 : decode cX12_push 68 = .ok (.iload_n 2, 1) := by decide +kernel
theorem dX12_push_69 : decode cX12_push 69 = .ok (.invokevirtual 325, 3) := by decide +kernel
theorem dX12_push_72 : decode cX12_push 72 = .ok (.aload_n 0, 1) := by decide +kernel
theorem dX12_push_73 : decode cX12_push 73 = .ok (.iload_n 1, 1) := by decide +kernel
theorem dX12_push_74 : decode cX12_push 74 = .ok (.iconst 2, 1) := by decide +kernel
theorem dX12_push_75 : decode cX12_push 75 = .ok (.invokevirtual 254, 3) := by decide +kernel
theorem dX12_push_78 : decode cX12_push 78 = .ok (.ireturn, 1) := by decide +kernel
theorem dX12_puts_0 : decode cX12_puts 0 = .ok (.aload_n 0, 1) := by decide +kernel
theorem dX12_puts_1 : decode cX12_puts 1 = .ok (.aload_n 0, 1) := by decide +kernel
theorem dX12_puts_2 : decode cX12_puts 2 = .ok (.iload_n 1, 1) := by decide +kernel
theorem dX12_puts_3 : decode cX12_puts 3 = .ok (.invokevirtual 307, 3) := by decide +kernel
theorem dX12_puts_6 : decode cX12_puts 6 = .ok (.ifCond .eq 11, 3) := by decide +kernel
theorem dX12_puts_9 : decode cX12_puts 9 = .ok (.aload_n 0, 1) := by decide +kernel
theorem dX12_puts_10 : decode cX12_puts 10 = .ok (.iload_n 2, 1) := by decide +kernel
theorem dX12_puts_11 : decode cX12_puts 11 = .ok (.invokevirtual 310, 3) := by decide +kernel
theorem dX12_puts_14 : decode cX12_puts 14 = .ok (.ifCond .ne 7, 3) := by decide +kernel
theorem dX12_puts_17 : decode cX12_puts 17 = .ok (.iconst 0, 1) := by decide +kernel
theorem dX12_puts_18 : decode cX12_puts 18 = .ok (.goto 33, 3) := by decide +kernel
theorem dX12_puts_21 : decode cX12_puts 21 = .ok (.aload_n 0, 1) := by decide +kernel
theorem dX12_puts_22 : decode cX12_puts 22 = .ok (.iload_n 1, 1) := by decide +kernel
theorem dX12_puts_23 : decode cX12_puts 23 = .ok (.iconst 3, 1) := by decide +kernel
theorem dX12_puts_24 : decode cX12_puts 24 = .ok (.invokevirtual 254, 3) := by decide +kernel
theorem dX12_puts_27 : decode cX12_puts 27 = .ok (.iload_n 2, 1) := by decide +kernel
theorem dX12_puts_28 : decode cX12_puts 28 = .ok (.if_icmp .ne 7, 3) := by decide +kernel
theorem dX12_puts_31 : decode cX12_puts 31 = .ok (.iconst 2, 1) := by decide +kernel
theorem dX12_puts_32 : decode cX12_puts 32 = .ok (.goto 19, 3) := by decide +kernel
theorem dX12_puts_35 : decode cX12_puts 35 = .ok (.aload_n 0, 1) := by decide +kernel
theorem dX12_puts_36 : decode cX12_puts 36 = .ok (.getfield 52, 3) := by decide +kernel
theorem dX12_puts_39 : decode cX12_puts 39 = .ok (.bipush 18, 2) := by decide +kernel
theorem dX12_puts_41 : decode cX12_puts 41 = .ok (.iaload, 1) := by decide +kernel
theorem dX12_puts_42 : decode cX12_puts 42 = .ok (.iconst 2, 1) := by decide +kernel
theorem dX12_puts_43 : decode cX12_puts 43 = .ok (.if_icmp .ge 7, 3) := by decide +kernel
theorem dX12_puts_46 : decode cX12_puts 46 = .ok (.iconst 3, 1) := by decide +kernel
theorem dX12_puts_47 : decode cX12_puts 47 = .ok (.goto 4, 3) := by decide +kernel
theorem dX12_puts_50 : decode cX12_puts 50 = .ok (.iconst (-1), 1) := by decide +kernel
theorem dX12_puts_51 : decode cX12_puts 51 = .ok (.invokevirtual 316, 3) := by decide +kernel
theorem dX12_puts_54 : decode cX12_puts 54 = .ok (.ifCond .eq 5, 3) := by decide +kernel
theorem dX12_puts_57 : decode cX12_puts 57 = .ok (.iconst (-1), 1) := by decide +kernel
theorem dX12_puts_58 : decode cX12_puts 58 = .ok (.ireturn, 1) := by decide +kernel
theorem dX12_puts_59 : decode cX12_puts 59 = .ok (.aload_n 0, 1) := by decide +kernel
theorem dX12_puts_60 : decode cX12_puts 60 = .ok (.invokevirtual 319, 3) := by decide +kernel
theorem dX12_puts_63 : decode cX12_puts 63 = .ok (.aload_n 0, 1) := by decide +kernel
theorem dX12_puts_64 : decode cX12_puts 64 = .ok (.getfield 52, 3) := by decide +kernel
theorem dX12_puts_67 : decode cX12_puts 67 = .ok (.bipush 18, 2) := by decide +kernel
theorem dX12_puts_69 : decode cX12_puts 69 = .ok (.dup2, 1) := by decide +kernel
theorem dX12_puts_70 : decode cX12_puts 70 = .ok (.iaload, 1) := by decide +kernel
theorem dX12_puts_71 : decode cX12_puts 71 = .ok (.iconst 2, 1) := by decide +kernel
theorem dX12_puts_72 : decode cX12_puts 72 = .ok (.isub, 1) := by decide +kernel
theorem dX12_puts_73 : decode cX12_puts 73 = .ok (.iastore, 1) := by decide +kernel
theorem dX12_puts_74 : decode cX12_puts 74 = .ok (.aload_n 0, 1) := by decide +kernel
theorem dX12_puts_75 : decode cX12_puts 75 = .ok (.getfield 52, 3) := by decide +kernel
theorem dX12_puts_78 : decode cX12_puts 78 = .ok (.iconst 4, 1) := by decide +kernel
theorem dX12_puts_79 : decode cX12_puts 79 = .ok (.iload_n 1, 1) := by decide +kernel
theorem dX12_puts_80 : decode cX12_puts 80 = .ok (.imul, 1) := by decide +kernel
theorem dX12_puts_81 : decode cX12_puts 81 = .ok (.iconst 3, 1) := by decide +kernel
theorem dX12_puts_82 : decode cX12_puts 82 = .ok (.iadd, 1) := by decide +kernel
theorem dX12_puts_83 : decode cX12_puts 83 = .ok (.iload_n 2, 1) := by decide +kernel
theorem dX12_puts_84 : decode cX12_puts 84 = .ok (.iastore, 1) := by decide +kernel
theorem dX12_puts_85 : decode cX12_puts 85 = .ok (.aload_n 0, 1) := by decide +kernel
theorem dX12_puts_86 : decode cX12_puts 86 = .ok (.getfield 52, 3) := by decide +kernel
theorem dX12_puts_89 : decode cX12_puts 89 = .ok (.iconst 4, 1) := by decide +kernel
theorem dX12_puts_90 : decode cX12_puts 90 = .ok (.iload_n 1, 1) := by decide +kernel
theorem dX12_puts_91 : decode cX12_puts 91 = .ok (.imul, 1) := by decide +kernel
theorem dX12_puts_92 : decode cX12_puts 92 = .ok (.iconst 2, 1) := by decide +kernel
theorem dX12_puts_93 : decode cX12_puts 93 = .ok (.iadd, 1) := by decide +kernel
theorem dX12_puts_94 : decode cX12_puts 94 = .ok (.aload_n 0, 1) := by decide +kernel
theorem dX12_puts_95 : decode cX12_puts 95 = .ok (.iload_n 1, 1) := by decide +kernel
theorem dX12_puts_96 : decode cX12_puts 96 = .ok (.iconst 2, 1) := by decide +kernel
theorem dX12_puts_97 : decode cX12_puts 97 = .ok (.invokevirtual 254, 3) := by decide +kernel
theorem dX12_puts_100 : decode cX12_puts 100 = .ok (.aload_n 0, 1) := by decide +kernel
theorem dX12_puts_101 : decode cX12_puts 101 = .ok (.iload_n 1, 1) := by decide +kernel
theorem dX12_puts_102 : decode cX12_puts 102 = .ok (.invokevirtual 266, 3) := by decide +kernel
theorem dX12_puts_105 : decode cX12_puts 105 = .ok (.irem, 1) := by decide +kernel
theorem dX12_puts_106 : decode cX12_puts 106 = .ok (.iastore, 1) := by decide +kernel
theorem dX12_puts_107 : decode cX12_puts 107 = .ok (.aload_n 0, 1) := by decide +kernel
theorem dX12_puts_108 : decode cX12_puts 108 = .ok (.iload_n 1, 1) := by decide +kernel
theorem dX12_puts_109 : decode cX12_puts 109 = .ok (.invokevirtual 266, 3) := by decide +kernel
theorem dX12_puts_112 : decode cX12_puts 112 = .ok (.ireturn, 1) := by decide +kernel
theorem dX12_oil_0 : decode cX12_oil 0 = .ok (.aload_n 0, 1) := by decide +kernel
theorem dX12_oil_1 : decode cX12_oil 1 = .ok (.aload_n 0, 1) := by decide +kernel
theorem dX12_oil_2 : decode cX12_oil 2 = .ok (.getfield 263, 3) := by decide +kernel
theorem dX12_oil_5 : decode cX12_oil 5 = .ok (.ifCond .ne 7, 3) := by decide +kernel
theorem dX12_oil_8 : decode cX12_oil 8 = .ok (.iconst 0, 1) := by decide +kernel
theorem dX12_oil_9 : decode cX12_oil 9 = .ok (.goto 52, 3) := by decide +kernel
theorem dX12_oil_12 : decode cX12_oil 12 = .ok (.iload_n 1, 1) := by decide +kernel
theorem dX12_oil_13 : decode cX12_oil 13 = .ok (.iconst 1, 1) := by decide +kernel
theorem dX12_oil_14 : decode cX12_oil 14 = .ok (.bipush 30, 2) := by decide +kernel
theorem dX12_oil_16 : decode cX12_oil 16 = .ok (.invokestatic 208, 3) := by decide +kernel
theorem dX12_oil_19 : decode cX12_oil 19 = .ok (.ifCond .ne 7, 3) := by decide +kernel
theorem dX12_oil_22 : decode cX12_oil 22 = .ok (.iconst 1, 1) := by decide +kernel
theorem dX12_oil_23 : decode cX12_oil 23 = .ok (.goto 38, 3) := by decide +kernel
theorem dX12_oil_26 : decode cX12_oil 26 = .ok (.aload_n 0, 1) := by decide +kernel
theorem dX12_oil_27 : decode cX12_oil 27 = .ok (.getfield 52, 3) := by decide +kernel
theorem dX12_oil_30 : decode cX12_oil 30 = .ok (.bipush 18, 2) := by decide +kernel
theorem dX12_oil_32 : decode cX12_oil 32 = .ok (.iaload, 1) := by decide +kernel
theorem dX12_oil_33 : decode cX12_oil 33 = .ok (.iload_n 1, 1) := by decide +kernel
theorem dX12_oil_34 : decode cX12_oil 34 = .ok (.iconst 1, 1) := by decide +kernel
theorem dX12_oil_35 : decode cX12_oil 35 = .ok (.iadd, 1) := by decide +kernel
theorem dX12_oil_36 : decode cX12_oil 36 = .ok (.iconst 2, 1) := by decide +kernel
theorem dX12_oil_37 : decode cX12_oil 37 = .ok (.idiv, 1) := by decide +kernel
theorem dX12_oil_38 : decode cX12_oil 38 = .ok (.if_icmp .lt 18, 3) := by decide +kernel
theorem dX12_oil_41 : decode cX12_oil 41 = .ok (.aload_n 0, 1) := by decide +kernel
theorem dX12_oil_42 : decode cX12_oil 42 = .ok (.getfield 52, 3) := by decide +kernel
theorem dX12_oil_45 : decode cX12_oil 45 = .ok (.bipush 17, 2) := by decide +kernel
theorem dX12_oil_47 : decode cX12_oil 47 = .ok (.iaload, 1) := by decide +kernel
theorem dX12_oil_48 : decode cX12_oil 48 = .ok (.iload_n 1, 1) := by decide +kernel
theorem dX12_oil_49 : decode cX12_oil 49 = .ok (.iadd, 1) := by decide +kernel
theorem dX12_oil_50 : decode cX12_oil 50 = .ok (.sipush 999, 3) := by decide +kernel
theorem dX12_oil_53 : decode cX12_oil 53 = .ok (.if_icmp .le 7, 3) := by decide +kernel
theorem dX12_oil_56 : decode cX12_oil 56 = .ok (.iconst 3, 1) := by decide +kernel
theorem dX12_oil_57 : decode cX12_oil 57 = .ok (.goto 4, 3) := by decide +kernel
theorem dX12_oil_60 : decode cX12_oil 60 = .ok (.iconst (-1), 1) := by decide +kernel
theorem dX12_oil_61 : decode cX12_oil 61 = .ok (.invokevirtual 316, 3) := by decide +kernel
theorem dX12_oil_64 : decode cX12_oil 64 = .ok (.ifCond .eq 5, 3) := by decide +kernel
theorem dX12_oil_67 : decode cX12_oil 67 = .ok (.iconst (-1), 1) := by decide +kernel
theorem dX12_oil_68 : decode cX12_oil 68 = .ok (.ireturn, 1) := by decide +kernel
theorem dX12_oil_69 : decode cX12_oil 69 = .ok (.aload_n 0, 1) := by decide +kernel
theorem dX12_oil_70 : decode cX12_oil 70 = .ok (.invokevirtual 319, 3) := by decide +kernel
theorem dX12_oil_73 : decode cX12_oil 73 = .ok (.aload_n 0, 1) := by decide +kernel
theorem dX12_oil_74 : decode cX12_oil 74 = .ok (.getfield 52, 3) := by decide +kernel
theorem dX12_oil_77 : decode cX12_oil 77 = .ok (.bipush 18, 2) := by decide +kernel
theorem dX12_oil_79 : decode cX12_oil 79 = .ok (.dup2, 1) := by decide +kernel
theorem dX12_oil_80 : decode cX12_oil 80 = .ok (.iaload, 1) := by decide +kernel
theorem dX12_oil_81 : decode cX12_oil 81 = .ok (.iload_n 1, 1) := by decide +kernel
theorem dX12_oil_82 : decode cX12_oil 82 = .ok (.iconst 1, 1) := by decide +kernel
theorem dX12_oil_83 : decode cX12_oil 83 = .ok (.iadd, 1) := by decide +kernel
theorem dX12_oil_84 : decode cX12_oil 84 = .ok (.iconst 2, 1) := by decide +kernel
theorem dX12_oil_85 : decode cX12_oil 85 = .ok (.idiv, 1) := by decide +kernel
theorem dX12_oil_86 : decode cX12_oil 86 = .ok (.isub, 1) := by decide +kernel
theorem dX12_oil_87 : decode cX12_oil 87 = .ok (.iastore, 1) := by decide +kernel
theorem dX12_oil_88 : decode cX12_oil 88 = .ok (.aload_n 0, 1) := by decide +kernel
theorem dX12_oil_89 : decode cX12_oil 89 = .ok (.getfield 52, 3) := by decide +kernel
theorem dX12_oil_92 : decode cX12_oil 92 = .ok (.bipush 17, 2) := by decide +kernel
theorem dX12_oil_94 : decode cX12_oil 94 = .ok (.dup2, 1) := by decide +kernel
theorem dX12_oil_95 : decode cX12_oil 95 = .ok (.iaload, 1) := by decide +kernel
theorem dX12_oil_96 : decode cX12_oil 96 = .ok (.iload_n 1, 1) := by decide +kernel
theorem dX12_oil_97 : decode cX12_oil 97 = .ok (.iadd, 1) := by decide +kernel
theorem dX12_oil_98 : decode cX12_oil 98 = .ok (.iastore, 1) := by decide +kernel
theorem dX12_oil_99 : decode cX12_oil 99 = .ok (.aload_n 0, 1) := by decide +kernel
theorem dX12_oil_100 : decode cX12_oil 100 = .ok (.getfield 52, 3) := by decide +kernel
theorem dX12_oil_103 : decode cX12_oil 103 = .ok (.bipush 17, 2) := by decide +kernel
theorem dX12_oil_105 : decode cX12_oil 105 = .ok (.iaload, 1) := by decide +kernel
theorem dX12_oil_106 : decode cX12_oil 106 = .ok (.ireturn, 1) := by decide +kernel
theorem dX12_give_0 : decode cX12_give 0 = .ok (.aload_n 0, 1) := by decide +kernel
theorem dX12_give_1 : decode cX12_give 1 = .ok (.aload_n 0, 1) := by decide +kernel
theorem dX12_give_2 : decode cX12_give 2 = .ok (.getfield 263, 3) := by decide +kernel
theorem dX12_give_5 : decode cX12_give 5 = .ok (.ifCond .ne 7, 3) := by decide +kernel
theorem dX12_give_8 : decode cX12_give 8 = .ok (.iconst 0, 1) := by decide +kernel
theorem dX12_give_9 : decode cX12_give 9 = .ok (.goto 37, 3) := by decide +kernel
theorem dX12_give_12 : decode cX12_give 12 = .ok (.iload_n 1, 1) := by decide +kernel
theorem dX12_give_13 : decode cX12_give 13 = .ok (.iconst 1, 1) := by decide +kernel
theorem dX12_give_14 : decode cX12_give 14 = .ok (.bipush 50, 2) := by decide +kernel
theorem dX12_give_16 : decode cX12_give 16 = .ok (.invokestatic 208, 3) := by decide +kernel
theorem dX12_give_19 : decode cX12_give 19 = .ok (.ifCond .ne 7, 3) := by decide +kernel
theorem dX12_give_22 : decode cX12_give 22 = .ok (.iconst 1, 1) := by decide +kernel
theorem dX12_give_23 : decode cX12_give 23 = .ok (.goto 23, 3) := by decide +kernel
theorem dX12_give_26 : decode cX12_give 26 = .ok (.aload_n 0, 1) := by decide +kernel
theorem dX12_give_27 : decode cX12_give 27 = .ok (.getfield 52, 3) := by decide +kernel
theorem dX12_give_30 : decode cX12_give 30 = .ok (.bipush 18, 2) := by decide +kernel
theorem dX12_give_32 : decode cX12_give 32 = .ok (.iaload, 1) := by decide +kernel
theorem dX12_give_33 : decode cX12_give 33 = .ok (.iload_n 1, 1) := by decide +kernel
theorem dX12_give_34 : decode cX12_give 34 = .ok (.iadd, 1) := by decide +kernel
theorem dX12_give_35 : decode cX12_give 35 = .ok (.sipush 999, 3) := by decide +kernel
theorem dX12_give_38 : decode cX12_give 38 = .ok (.if_icmp .le 7, 3) := by decide +kernel
theorem dX12_give_41 : decode cX12_give 41 = .ok (.iconst 3, 1) := by decide +kernel
theorem dX12_give_42 : decode cX12_give 42 = .ok (.goto 4, 3) := by decide +kernel
theorem dX12_give_45 : decode cX12_give 45 = .ok (.iconst (-1), 1) := by decide +kernel
theorem dX12_give_46 : decode cX12_give 46 = .ok (.invokevirtual 316, 3) := by decide +kernel
theorem dX12_give_49 : decode cX12_give 49 = .ok (.ifCond .eq 5, 3) := by decide +kernel
theorem dX12_give_52 : decode cX12_give 52 = .ok (.iconst (-1), 1) := by decide +kernel
theorem dX12_give_53 : decode cX12_give 53 = .ok (.ireturn, 1) := by decide +kernel
theorem dX12_give_54 : decode cX12_give 54 = .ok (.aload_n 0, 1) := by decide +kernel
theorem dX12_give_55 : decode cX12_give 55 = .ok (.invokevirtual 319, 3) := by decide +kernel
theorem dX12_give_58 : decode cX12_give 58 = .ok (.aload_n 0, 1) := by decide +kernel
theorem dX12_give_59 : decode cX12_give 59 = .ok (.getfield 52, 3) := by decide +kernel
theorem dX12_give_62 : decode cX12_give 62 = .ok (.bipush 18, 2) := by decide +kernel
theorem dX12_give_64 : decode cX12_give 64 = .ok (.dup2, 1) := by decide +kernel
theorem dX12_give_65 : decode cX12_give 65 = .ok (.iaload, 1) := by decide +kernel
theorem dX12_give_66 : decode cX12_give 66 = .ok (.iload_n 1, 1) := by decide +kernel
theorem dX12_give_67 : decode cX12_give 67 = .ok (.iadd, 1) := by decide +kernel
theorem dX12_give_68 : decode cX12_give 68 = .ok (.iastore, 1) := by decide +kernel
theorem dX12_give_69 : decode cX12_give 69 = .ok (.aload_n 0, 1) := by decide +kernel
theorem dX12_give_70 : decode cX12_give 70 = .ok (.getfield 52, 3) := by decide +kernel
theorem dX12_give_73 : decode cX12_give 73 = .ok (.bipush 18, 2) := by decide +kernel
theorem dX12_give_75 : decode cX12_give 75 = .ok (.iaload, 1) := by decide +kernel
theorem dX12_give_76 : decode cX12_give 76 = .ok (.ireturn, 1) := by decide +kernel
theorem dX12_draw_0 : decode cX12_draw 0 = .ok (.aload_n 0, 1) := by decide +kernel
theorem dX12_draw_1 : decode cX12_draw 1 = .ok (.aload_n 0, 1) := by decide +kernel
theorem dX12_draw_2 : decode cX12_draw 2 = .ok (.getfield 328, 3) := by decide +kernel
theorem dX12_draw_5 : decode cX12_draw 5 = .ok (.ldc2_w 332, 3) := by decide +kernel
theorem dX12_draw_8 : decode cX12_draw 8 = .ok (.lmul, 1) := by decide +kernel
theorem dX12_draw_9 : decode cX12_draw 9 = .ok (.ldc2_w 334, 3) := by decide +kernel
theorem dX12_draw_12 : decode cX12_draw 12 = .ok (.ladd, 1) := by decide +kernel
theorem dX12_draw_13 : decode cX12_draw 13 = .ok (.putfield 328, 3) := by decide +kernel
theorem dX12_draw_16 : decode cX12_draw 16 = .ok (.aload_n 0, 1) := by decide +kernel
theorem dX12_draw_17 : decode cX12_draw 17 = .ok (.getfield 328, 3) := by decide +kernel
theorem dX12_draw_20 : decode cX12_draw 20 = .ok (.bipush 33, 2) := by decide +kernel
theorem dX12_draw_22 : decode cX12_draw 22 = .ok (.lushr, 1) := by decide +kernel
theorem dX12_draw_23 : decode cX12_draw 23 = .ok (.iload_n 1, 1) := by decide +kernel
theorem dX12_draw_24 : decode cX12_draw 24 = .ok (.i2l, 1) := by decide +kernel
theorem dX12_draw_25 : decode cX12_draw 25 = .ok (.lrem, 1) := by decide +kernel
theorem dX12_draw_26 : decode cX12_draw 26 = .ok (.l2i, 1) := by decide +kernel
theorem dX12_draw_27 : decode cX12_draw 27 = .ok (.ireturn, 1) := by decide +kernel
theorem dX12_drawTick_0 : decode cX12_drawTick 0 = .ok (.aload_n 0, 1) := by decide +kernel
theorem dX12_drawTick_1 : decode cX12_drawTick 1 = .ok (.bipush 10, 2) := by decide +kernel
theorem dX12_drawTick_3 : decode cX12_drawTick 3 = .ok (.invokevirtual 336, 3) := by decide +kernel
theorem dX12_drawTick_6 : decode cX12_drawTick 6 = .ok (.aload_n 0, 1) := by decide +kernel
theorem dX12_drawTick_7 : decode cX12_drawTick 7 = .ok (.getfield 62, 3) := by decide +kernel
theorem dX12_drawTick_10 : decode cX12_drawTick 10 = .ok (.if_icmp .ge 25, 3) := by decide +kernel
theorem dX12_drawTick_13 : decode cX12_drawTick 13 = .ok (.aload_n 0, 1) := by decide +kernel
theorem dX12_drawTick_14 : decode cX12_drawTick 14 = .ok (.aload_n 0, 1) := by decide +kernel
theorem dX12_drawTick_15 : decode cX12_drawTick 15 = .ok (.getfield 263, 3) := by decide +kernel
theorem dX12_drawTick_18 : decode cX12_drawTick 18 = .ok (.invokevirtual 336, 3) := by decide +kernel
theorem dX12_drawTick_21 : decode cX12_drawTick 21 = .ok (.istore_n 1, 1) := by decide +kernel
theorem dX12_drawTick_22 : decode cX12_drawTick 22 = .ok (.aload_n 0, 1) := by decide +kernel
theorem dX12_drawTick_23 : decode cX12_drawTick 23 = .ok (.iload_n 1, 1) := by decide +kernel
theorem dX12_drawTick_24 : decode cX12_drawTick 24 = .ok (.aload_n 0, 1) := by decide +kernel
theorem dX12_drawTick_25 : decode cX12_drawTick 25 = .ok (.bipush 9, 2) := by decide +kernel
theorem dX12_drawTick_27 : decode cX12_drawTick 27 = .ok (.invokevirtual 336, 3) := by decide +kernel
theorem dX12_drawTick_30 : decode cX12_drawTick 30 = .ok (.iconst 1, 1) := by decide +kernel
theorem dX12_drawTick_31 : decode cX12_drawTick 31 = .ok (.iadd, 1) := by decide +kernel
theorem dX12_drawTick_32 : decode cX12_drawTick 32 = .ok (.invokevirtual 325, 3) := by decide +kernel
theorem dX12_drawTick_35 : decode cX12_drawTick 35 = .ok (.aload_n 0, 1) := by decide +kernel
theorem dX12_drawTick_36 : decode cX12_drawTick 36 = .ok (.bipush 10, 2) := by decide +kernel
theorem dX12_drawTick_38 : decode cX12_drawTick 38 = .ok (.invokevirtual 336, 3) := by decide +kernel
theorem dX12_drawTick_41 : decode cX12_drawTick 41 = .ok (.iconst 2, 1) := by decide +kernel
theorem dX12_drawTick_42 : decode cX12_drawTick 42 = .ok (.if_icmp .ge 28, 3) := by decide +kernel
theorem dX12_drawTick_45 : decode cX12_drawTick 45 = .ok (.aload_n 0, 1) := by decide +kernel
theorem dX12_drawTick_46 : decode cX12_drawTick 46 = .ok (.aload_n 0, 1) := by decide +kernel
theorem dX12_drawTick_47 : decode cX12_drawTick 47 = .ok (.getfield 263, 3) := by decide +kernel
theorem dX12_drawTick_50 : decode cX12_drawTick 50 = .ok (.invokevirtual 336, 3) := by decide +kernel
theorem dX12_drawTick_53 : decode cX12_drawTick 53 = .ok (.istore_n 1, 1) := by decide +kernel
theorem dX12_drawTick_54 : decode cX12_drawTick 54 = .ok (.aload_n 0, 1) := by decide +kernel
theorem dX12_drawTick_55 : decode cX12_drawTick 55 = .ok (.getfield 52, 3) := by decide +kernel
theorem dX12_drawTick_58 : decode cX12_drawTick 58 = .ok (.iconst 4, 1) := by decide +kernel
theorem dX12_drawTick_59 : decode cX12_drawTick 59 = .ok (.iload_n 1, 1) := by decide +kernel
theorem dX12_drawTick_60 : decode cX12_drawTick 60 = .ok (.imul, 1) := by decide +kernel
theorem dX12_drawTick_61 : decode cX12_drawTick 61 = .ok (.iconst 0, 1) := by decide +kernel
theorem dX12_drawTick_62 : decode cX12_drawTick 62 = .ok (.iadd, 1) := by decide +kernel
theorem dX12_drawTick_63 : decode cX12_drawTick 63 = .ok (.aload_n 0, 1) := by decide +kernel
theorem dX12_drawTick_64 : decode cX12_drawTick 64 = .ok (.bipush 10, 2) := by decide +kernel
theorem dX12_drawTick_66 : decode cX12_drawTick 66 = .ok (.invokevirtual 336, 3) := by decide +kernel
theorem dX12_drawTick_69 : decode cX12_drawTick 69 = .ok (.iastore, 1) := by decide +kernel
theorem dX12_drawTick_70 : decode cX12_drawTick 70 = .ok (.aload_n 0, 1) := by decide +kernel
theorem dX12_drawTick_71 : decode cX12_drawTick 71 = .ok (.getfield 52, 3) := by decide +kernel
theorem dX12_drawTick_74 : decode cX12_drawTick 74 = .ok (.bipush 17, 2) := by decide +kernel
theorem dX12_drawTick_76 : decode cX12_drawTick 76 = .ok (.sipush 999, 3) := by decide +kernel
theorem dX12_drawTick_79 : decode cX12_drawTick 79 = .ok (.aload_n 0, 1) := by decide +kernel
theorem dX12_drawTick_80 : decode cX12_drawTick 80 = .ok (.getfield 52, 3) := by decide +kernel
theorem dX12_drawTick_83 : decode cX12_drawTick 83 = .ok (.bipush 17, 2) := by decide +kernel
theorem dX12_drawTick_85 : decode cX12_drawTick 85 = .ok (.iaload, 1) := by decide +kernel
theorem dX12_drawTick_86 : decode cX12_drawTick 86 = .ok (.iconst 1, 1) := by decide +kernel
theorem dX12_drawTick_87 : decode cX12_drawTick 87 = .ok (.iadd, 1) := by decide +kernel
theorem dX12_drawTick_88 : decode cX12_drawTick 88 = .ok (.invokestatic 288, 3) := by decide +kernel
theorem dX12_drawTick_91 : decode cX12_drawTick 91 = .ok (.iastore, 1) := by decide +kernel
theorem dX12_drawTick_92 : decode cX12_drawTick 92 = .ok (.return_, 1) := by decide +kernel
theorem dX12_years_0 : decode cX12_years 0 = .ok (.aload_n 0, 1) := by decide +kernel
theorem dX12_years_1 : decode cX12_years 1 = .ok (.getfield 263, 3) := by decide +kernel
theorem dX12_years_4 : decode cX12_years 4 = .ok (.ifCond .eq 11, 3) := by decide +kernel
theorem dX12_years_7 : decode cX12_years 7 = .ok (.aload_n 0, 1) := by decide +kernel
theorem dX12_years_8 : decode cX12_years 8 = .ok (.iload_n 1, 1) := by decide +kernel
theorem dX12_years_9 : decode cX12_years 9 = .ok (.invokevirtual 313, 3) := by decide +kernel
theorem dX12_years_12 : decode cX12_years 12 = .ok (.ifCond .ne 5, 3) := by decide +kernel
theorem dX12_years_15 : decode cX12_years 15 = .ok (.iconst (-1), 1) := by decide +kernel
theorem dX12_years_16 : decode cX12_years 16 = .ok (.ireturn, 1) := by decide +kernel
theorem dX12_years_17 : decode cX12_years 17 = .ok (.aload_n 0, 1) := by decide +kernel
theorem dX12_years_18 : decode cX12_years 18 = .ok (.lload_n 2, 1) := by decide +kernel
theorem dX12_years_19 : decode cX12_years 19 = .ok (.putfield 328, 3) := by decide +kernel
theorem dX12_years_22 : decode cX12_years 22 = .ok (.iconst 0, 1) := by decide +kernel
theorem dX12_years_23 : decode cX12_years 23 = .ok (.istore 4, 2) := by decide +kernel
theorem dX12_years_25 : decode cX12_years 25 = .ok (.iload 4, 2) := by decide +kernel
theorem dX12_years_27 : decode cX12_years 27 = .ok (.iload_n 1, 1) := by decide +kernel
theorem dX12_years_28 : decode cX12_years 28 = .ok (.if_icmp .ge 21, 3) := by decide +kernel
theorem dX12_years_31 : decode cX12_years 31 = .ok (.aload_n 0, 1) := by decide +kernel
theorem dX12_years_32 : decode cX12_years 32 = .ok (.invokevirtual 319, 3) := by decide +kernel
theorem dX12_years_35 : decode cX12_years 35 = .ok (.aload_n 0, 1) := by decide +kernel
theorem dX12_years_36 : decode cX12_years 36 = .ok (.invokevirtual 339, 3) := by decide +kernel
theorem dX12_years_39 : decode cX12_years 39 = .ok (.aload_n 0, 1) := by decide +kernel
theorem dX12_years_40 : decode cX12_years 40 = .ok (.invokevirtual 322, 3) := by decide +kernel
theorem dX12_years_43 : decode cX12_years 43 = .ok (.iinc 4 1, 3) := by decide +kernel
theorem dX12_years_46 : decode cX12_years 46 = .ok (.goto (-21), 3) := by decide +kernel
theorem dX12_years_49 : decode cX12_years 49 = .ok (.aload_n 0, 1) := by decide +kernel
theorem dX12_years_50 : decode cX12_years 50 = .ok (.getfield 52, 3) := by decide +kernel
theorem dX12_years_53 : decode cX12_years 53 = .ok (.bipush 19, 2) := by decide +kernel
theorem dX12_years_55 : decode cX12_years 55 = .ok (.iaload, 1) := by decide +kernel
theorem dX12_years_56 : decode cX12_years 56 = .ok (.ireturn, 1) := by decide +kernel
theorem dX12_status_0 : decode cX12_status 0 = .ok (.iload_n 1, 1) := by decide +kernel
theorem dX12_status_1 : decode cX12_status 1 = .ok (.iconst 0, 1) := by decide +kernel
theorem dX12_status_2 : decode cX12_status 2 = .ok (.iconst 4, 1) := by decide +kernel
theorem dX12_status_3 : decode cX12_status 3 = .ok (.invokestatic 208, 3) := by decide +kernel
theorem dX12_status_6 : decode cX12_status 6 = .ok (.ifCond .eq 12, 3) := by decide +kernel
theorem dX12_status_9 : decode cX12_status 9 = .ok (.aload_n 0, 1) := by decide +kernel
theorem dX12_status_10 : decode cX12_status 10 = .ok (.getfield 55, 3) := by decide +kernel
theorem dX12_status_13 : decode cX12_status 13 = .ok (.iload_n 1, 1) := by decide +kernel
theorem dX12_status_14 : decode cX12_status 14 = .ok (.iaload, 1) := by decide +kernel
theorem dX12_status_15 : decode cX12_status 15 = .ok (.goto 4, 3) := by decide +kernel
theorem dX12_status_18 : decode cX12_status 18 = .ok (.iconst (-1), 1) := by decide +kernel
theorem dX12_status_19 : decode cX12_status 19 = .ok (.ireturn, 1) := by decide +kernel
theorem dX12_undo_0 : decode cX12_undo 0 = .ok (.aload_n 0, 1) := by decide +kernel
theorem dX12_undo_1 : decode cX12_undo 1 = .ok (.getfield 272, 3) := by decide +kernel
theorem dX12_undo_4 : decode cX12_undo 4 = .ok (.ifCond .ne 5, 3) := by decide +kernel
theorem dX12_undo_7 : decode cX12_undo 7 = .ok (.iconst (-1), 1) := by decide +kernel
theorem dX12_undo_8 : decode cX12_undo 8 = .ok (.ireturn, 1) := by decide +kernel
theorem dX12_undo_9 : decode cX12_undo 9 = .ok (.aload_n 0, 1) := by decide +kernel
theorem dX12_undo_10 : decode cX12_undo 10 = .ok (.dup, 1) := by decide +kernel
theorem dX12_undo_11 : decode cX12_undo 11 = .ok (.getfield 272, 3) := by decide +kernel
theorem dX12_undo_14 : decode cX12_undo 14 = .ok (.iconst 1, 1) := by decide +kernel
theorem dX12_undo_15 : decode cX12_undo 15 = .ok (.isub, 1) := by decide +kernel
theorem dX12_undo_16 : decode cX12_undo 16 = .ok (.putfield 272, 3) := by decide +kernel
theorem dX12_undo_19 : decode cX12_undo 19 = .ok (.iconst 0, 1) := by decide +kernel
theorem dX12_undo_20 : decode cX12_undo 20 = .ok (.istore_n 1, 1) := by decide +kernel
theorem dX12_undo_21 : decode cX12_undo 21 = .ok (.iload_n 1, 1) := by decide +kernel
theorem dX12_undo_22 : decode cX12_undo 22 = .ok (.sipush 261, 3) := by decide +kernel
theorem dX12_undo_25 : decode cX12_undo 25 = .ok (.if_icmp .ge 30, 3) := by decide +kernel
theorem dX12_undo_28 : decode cX12_undo 28 = .ok (.aload_n 0, 1) := by decide +kernel
theorem dX12_undo_29 : decode cX12_undo 29 = .ok (.getfield 52, 3) := by decide +kernel
theorem dX12_undo_32 : decode cX12_undo 32 = .ok (.iload_n 1, 1) := by decide +kernel
theorem dX12_undo_33 : decode cX12_undo 33 = .ok (.aload_n 0, 1) := by decide +kernel
theorem dX12_undo_34 : decode cX12_undo 34 = .ok (.getfield 65, 3) := by decide +kernel
theorem dX12_undo_37 : decode cX12_undo 37 = .ok (.sipush 261, 3) := by decide +kernel
theorem dX12_undo_40 : decode cX12_undo 40 = .ok (.aload_n 0, 1) := by decide +kernel
theorem dX12_undo_41 : decode cX12_undo 41 = .ok (.getfield 272, 3) := by decide +kernel
theorem dX12_undo_44 : decode cX12_undo 44 = .ok (.imul, 1) := by decide +kernel
theorem dX12_undo_45 : decode cX12_undo 45 = .ok (.iload_n 1, 1) := by decide +kernel
theorem dX12_undo_46 : decode cX12_undo 46 = .ok (.iadd, 1) := by decide +kernel
theorem dX12_undo_47 : decode cX12_undo 47 = .ok (.iaload, 1) := by decide +kernel
theorem dX12_undo_48 : decode cX12_undo 48 = .ok (.iastore, 1) := by decide +kernel
theorem dX12_undo_49 : decode cX12_undo 49 = .ok (.iinc 1 1, 3) := by decide +kernel
theorem dX12_undo_52 : decode cX12_undo 52 = .ok (.goto (-31), 3) := by decide +kernel
theorem dX12_undo_55 : decode cX12_undo 55 = .ok (.aload_n 0, 1) := by decide +kernel
theorem dX12_undo_56 : decode cX12_undo 56 = .ok (.getfield 272, 3) := by decide +kernel
theorem dX12_undo_59 : decode cX12_undo 59 = .ok (.ireturn, 1) := by decide +kernel
theorem dX12_log_0 : decode cX12_log 0 = .ok (.iload_n 1, 1) := by decide +kernel
theorem dX12_log_1 : decode cX12_log 1 = .ok (.iconst 0, 1) := by decide +kernel
theorem dX12_log_2 : decode cX12_log 2 = .ok (.aload_n 0, 1) := by decide +kernel
theorem dX12_log_3 : decode cX12_log 3 = .ok (.getfield 52, 3) := by decide +kernel
theorem dX12_log_6 : decode cX12_log 6 = .ok (.bipush 20, 2) := by decide +kernel
theorem dX12_log_8 : decode cX12_log 8 = .ok (.iaload, 1) := by decide +kernel
theorem dX12_log_9 : decode cX12_log 9 = .ok (.iconst 1, 1) := by decide +kernel
theorem dX12_log_10 : decode cX12_log 10 = .ok (.isub, 1) := by decide +kernel
theorem dX12_log_11 : decode cX12_log 11 = .ok (.invokestatic 208, 3) := by decide +kernel
theorem dX12_log_14 : decode cX12_log 14 = .ok (.ifCond .eq 38, 3) := by decide +kernel
theorem dX12_log_17 : decode cX12_log 17 = .ok (.iload_n 2, 1) := by decide +kernel
theorem dX12_log_18 : decode cX12_log 18 = .ok (.iconst 0, 1) := by decide +kernel
theorem dX12_log_19 : decode cX12_log 19 = .ok (.iconst 3, 1) := by decide +kernel
theorem dX12_log_20 : decode cX12_log 20 = .ok (.invokestatic 208, 3) := by decide +kernel
theorem dX12_log_23 : decode cX12_log 23 = .ok (.ifCond .eq 29, 3) := by decide +kernel
theorem dX12_log_26 : decode cX12_log 26 = .ok (.aload_n 0, 1) := by decide +kernel
theorem dX12_log_27 : decode cX12_log 27 = .ok (.getfield 52, 3) := by decide +kernel
theorem dX12_log_30 : decode cX12_log 30 = .ok (.bipush 21, 2) := by decide +kernel
theorem dX12_log_32 : decode cX12_log 32 = .ok (.iconst 4, 1) := by decide +kernel
theorem dX12_log_33 : decode cX12_log 33 = .ok (.aload_n 0, 1) := by decide +kernel
theorem dX12_log_34 : decode cX12_log 34 = .ok (.getfield 52, 3) := by decide +kernel
theorem dX12_log_37 : decode cX12_log 37 = .ok (.bipush 20, 2) := by decide +kernel
theorem dX12_log_39 : decode cX12_log 39 = .ok (.iaload, 1) := by decide +kernel
theorem dX12_log_40 : decode cX12_log 40 = .ok (.iconst 1, 1) := by decide +kernel
theorem dX12_log_41 : decode cX12_log 41 = .ok (.isub, 1) := by decide +kernel
theorem dX12_log_42 : decode cX12_log 42 = .ok (.iload_n 1, 1) := by decide +kernel
theorem dX12_log_43 : decode cX12_log 43 = .ok (.isub, 1) := by decide +kernel
theorem dX12_log_44 : decode cX12_log 44 = .ok (.imul, 1) := by decide +kernel
theorem dX12_log_45 : decode cX12_log 45 = .ok (.iadd, 1) := by decide +kernel
theorem dX12_log_46 : decode cX12_log 46 = .ok (.iload_n 2, 1) := by decide +kernel
theorem dX12_log_47 : decode cX12_log 47 = .ok (.iadd, 1) := by decide +kernel
theorem dX12_log_48 : decode cX12_log 48 = .ok (.iaload, 1) := by decide +kernel
theorem dX12_log_49 : decode cX12_log 49 = .ok (.goto 4, 3) := by decide +kernel
theorem dX12_log_52 : decode cX12_log 52 = .ok (.iconst (-1), 1) := by decide +kernel
theorem dX12_log_53 : decode cX12_log 53 = .ok (.ireturn, 1) := by decide +kernel
theorem dX12_at_0 : decode cX12_at 0 = .ok (.aload_n 0, 1) := by decide +kernel
theorem dX12_at_1 : decode cX12_at 1 = .ok (.iload_n 1, 1) := by decide +kernel
theorem dX12_at_2 : decode cX12_at 2 = .ok (.invokevirtual 307, 3) := by decide +kernel
theorem dX12_at_5 : decode cX12_at 5 = .ok (.ifCond .eq 40, 3) := by decide +kernel
theorem dX12_at_8 : decode cX12_at 8 = .ok (.iload_n 2, 1) := by decide +kernel
theorem dX12_at_9 : decode cX12_at 9 = .ok (.iconst 0, 1) := by decide +kernel
theorem dX12_at_10 : decode cX12_at 10 = .ok (.bipush 99, 2) := by decide +kernel
theorem dX12_at_12 : decode cX12_at 12 = .ok (.invokestatic 208, 3) := by decide +kernel
theorem dX12_at_15 : decode cX12_at 15 = .ok (.ifCond .eq 30, 3) := by decide +kernel
theorem dX12_at_18 : decode cX12_at 18 = .ok (.aload_n 0, 1) := by decide +kernel
theorem dX12_at_19 : decode cX12_at 19 = .ok (.aload_n 0, 1) := by decide +kernel
theorem dX12_at_20 : decode cX12_at 20 = .ok (.iload_n 1, 1) := by decide +kernel
theorem dX12_at_21 : decode cX12_at 21 = .ok (.iconst 3, 1) := by decide +kernel
theorem dX12_at_22 : decode cX12_at 22 = .ok (.invokevirtual 254, 3) := by decide +kernel
theorem dX12_at_25 : decode cX12_at 25 = .ok (.aload_n 0, 1) := by decide +kernel
theorem dX12_at_26 : decode cX12_at 26 = .ok (.iload_n 1, 1) := by decide +kernel
theorem dX12_at_27 : decode cX12_at 27 = .ok (.iload_n 2, 1) := by decide +kernel
theorem dX12_at_28 : decode cX12_at 28 = .ok (.aload_n 0, 1) := by decide +kernel
theorem dX12_at_29 : decode cX12_at 29 = .ok (.getfield 52, 3) := by decide +kernel
theorem dX12_at_32 : decode cX12_at 32 = .ok (.bipush 16, 2) := by decide +kernel
theorem dX12_at_34 : decode cX12_at 34 = .ok (.iaload, 1) := by decide +kernel
theorem dX12_at_35 : decode cX12_at 35 = .ok (.imul, 1) := by decide +kernel
theorem dX12_at_36 : decode cX12_at 36 = .ok (.invokevirtual 342, 3) := by decide +kernel
theorem dX12_at_39 : decode cX12_at 39 = .ok (.invokevirtual 260, 3) := by decide +kernel
theorem dX12_at_42 : decode cX12_at 42 = .ok (.goto 4, 3) := by decide +kernel
theorem dX12_at_45 : decode cX12_at 45 = .ok (.iconst (-1), 1) := by decide +kernel
theorem dX12_at_46 : decode cX12_at 46 = .ok (.ireturn, 1) := by decide +kernel
theorem dX12_seems_0 : decode cX12_seems 0 = .ok (.aload_n 0, 1) := by decide +kernel
theorem dX12_seems_1 : decode cX12_seems 1 = .ok (.iload_n 1, 1) := by decide +kernel
theorem dX12_seems_2 : decode cX12_seems 2 = .ok (.invokevirtual 307, 3) := by decide +kernel
theorem dX12_seems_5 : decode cX12_seems 5 = .ok (.ifCond .eq 13, 3) := by decide +kernel
theorem dX12_seems_8 : decode cX12_seems 8 = .ok (.iload_n 2, 1) := by decide +kernel
theorem dX12_seems_9 : decode cX12_seems 9 = .ok (.iconst 1, 1) := by decide +kernel
theorem dX12_seems_10 : decode cX12_seems 10 = .ok (.bipush 60, 2) := by decide +kernel
theorem dX12_seems_12 : decode cX12_seems 12 = .ok (.invokestatic 208, 3) := by decide +kernel
theorem dX12_seems_15 : decode cX12_seems 15 = .ok (.ifCond .ne 7, 3) := by decide +kernel
theorem dX12_seems_18 : decode cX12_seems 18 = .ok (.ldc_w 345, 3) := by decide +kernel
theorem dX12_seems_21 : decode cX12_seems 21 = .ok (.ireturn, 1) := by decide +kernel
theorem dX12_seems_22 : decode cX12_seems 22 = .ok (.aload_n 0, 1) := by decide +kernel
theorem dX12_seems_23 : decode cX12_seems 23 = .ok (.iload_n 1, 1) := by decide +kernel
theorem dX12_seems_24 : decode cX12_seems 24 = .ok (.invokevirtual 266, 3) := by decide +kernel
theorem dX12_seems_27 : decode cX12_seems 27 = .ok (.istore_n 3, 1) := by decide +kernel
theorem dX12_seems_28 : decode cX12_seems 28 = .ok (.aload_n 0, 1) := by decide +kernel
theorem dX12_seems_29 : decode cX12_seems 29 = .ok (.iload_n 1, 1) := by decide +kernel
theorem dX12_seems_30 : decode cX12_seems 30 = .ok (.iload_n 2, 1) := by decide +kernel
theorem dX12_seems_31 : decode cX12_seems 31 = .ok (.invokevirtual 342, 3) := by decide +kernel
theorem dX12_seems_34 : decode cX12_seems 34 = .ok (.aload_n 0, 1) := by decide +kernel
theorem dX12_seems_35 : decode cX12_seems 35 = .ok (.iload_n 1, 1) := by decide +kernel
theorem dX12_seems_36 : decode cX12_seems 36 = .ok (.iconst 2, 1) := by decide +kernel
theorem dX12_seems_37 : decode cX12_seems 37 = .ok (.invokevirtual 254, 3) := by decide +kernel
theorem dX12_seems_40 : decode cX12_seems 40 = .ok (.isub, 1) := by decide +kernel
theorem dX12_seems_41 : decode cX12_seems 41 = .ok (.iload_n 3, 1) := by decide +kernel
theorem dX12_seems_42 : decode cX12_seems 42 = .ok (.invokestatic 295, 3) := by decide +kernel
theorem dX12_seems_45 : decode cX12_seems 45 = .ok (.istore 4, 2) := by decide +kernel
theorem dX12_seems_47 : decode cX12_seems 47 = .ok (.iconst 2, 1) := by decide +kernel
theorem dX12_seems_48 : decode cX12_seems 48 = .ok (.iload 4, 2) := by decide +kernel
theorem dX12_seems_50 : decode cX12_seems 50 = .ok (.imul, 1) := by decide +kernel
theorem dX12_seems_51 : decode cX12_seems 51 = .ok (.iload_n 3, 1) := by decide +kernel
theorem dX12_seems_52 : decode cX12_seems 52 = .ok (.if_icmp .le 10, 3) := by decide +kernel
theorem dX12_seems_55 : decode cX12_seems 55 = .ok (.iload 4, 2) := by decide +kernel
theorem dX12_seems_57 : decode cX12_seems 57 = .ok (.iload_n 3, 1) := by decide +kernel
theorem dX12_seems_58 : decode cX12_seems 58 = .ok (.isub, 1) := by decide +kernel
theorem dX12_seems_59 : decode cX12_seems 59 = .ok (.goto 5, 3) := by decide +kernel
theorem dX12_seems_62 : decode cX12_seems 62 = .ok (.iload 4, 2) := by decide +kernel
theorem dX12_seems_64 : decode cX12_seems 64 = .ok (.ireturn, 1) := by decide +kernel
theorem dX12_layTrail_0 : decode cX12_layTrail 0 = .ok (.aload_n 0, 1) := by decide +kernel
theorem dX12_layTrail_1 : decode cX12_layTrail 1 = .ok (.getfield 68, 3) := by decide +kernel
theorem dX12_layTrail_4 : decode cX12_layTrail 4 = .ok (.iconst 0, 1) := by decide +kernel
theorem dX12_layTrail_5 : decode cX12_layTrail 5 = .ok (.aload_n 0, 1) := by decide +kernel
theorem dX12_layTrail_6 : decode cX12_layTrail 6 = .ok (.iload_n 1, 1) := by decide +kernel
theorem dX12_layTrail_7 : decode cX12_layTrail 7 = .ok (.iconst 2, 1) := by decide +kernel
theorem dX12_layTrail_8 : decode cX12_layTrail 8 = .ok (.invokevirtual 254, 3) := by decide +kernel
theorem dX12_layTrail_11 : decode cX12_layTrail 11 = .ok (.iastore, 1) := by decide +kernel
theorem dX12_layTrail_12 : decode cX12_layTrail 12 = .ok (.iconst 0, 1) := by decide +kernel
theorem dX12_layTrail_13 : decode cX12_layTrail 13 = .ok (.istore_n 2, 1) := by decide +kernel
theorem dX12_layTrail_14 : decode cX12_layTrail 14 = .ok (.iload_n 2, 1) := by decide +kernel
theorem dX12_layTrail_15 : decode cX12_layTrail 15 = .ok (.sipush 360, 3) := by decide +kernel
theorem dX12_layTrail_18 : decode cX12_layTrail 18 = .ok (.if_icmp .ge 37, 3) := by decide +kernel
theorem dX12_layTrail_21 : decode cX12_layTrail 21 = .ok (.aload_n 0, 1) := by decide +kernel
theorem dX12_layTrail_22 : decode cX12_layTrail 22 = .ok (.getfield 68, 3) := by decide +kernel
theorem dX12_layTrail_25 : decode cX12_layTrail 25 = .ok (.iload_n 2, 1) := by decide +kernel
theorem dX12_layTrail_26 : decode cX12_layTrail 26 = .ok (.iconst 1, 1) := by decide +kernel
theorem dX12_layTrail_27 : decode cX12_layTrail 27 = .ok (.iadd, 1) := by decide +kernel
theorem dX12_layTrail_28 : decode cX12_layTrail 28 = .ok (.aload_n 0, 1) := by decide +kernel
theorem dX12_layTrail_29 : decode cX12_layTrail 29 = .ok (.iload_n 1, 1) := by decide +kernel
theorem dX12_layTrail_30 : decode cX12_layTrail 30 = .ok (.aload_n 0, 1) := by decide +kernel
theorem dX12_layTrail_31 : decode cX12_layTrail 31 = .ok (.getfield 68, 3) := by decide +kernel
theorem dX12_layTrail_34 : decode cX12_layTrail 34 = .ok (.iload_n 2, 1) := by decide +kernel
theorem dX12_layTrail_35 : decode cX12_layTrail 35 = .ok (.iaload, 1) := by decide +kernel
theorem dX12_layTrail_36 : decode cX12_layTrail 36 = .ok (.aload_n 0, 1) := by decide +kernel
theorem dX12_layTrail_37 : decode cX12_layTrail 37 = .ok (.getfield 52, 3) := by decide +kernel
theorem dX12_layTrail_40 : decode cX12_layTrail 40 = .ok (.bipush 19, 2) := by decide +kernel
theorem dX12_layTrail_42 : decode cX12_layTrail 42 = .ok (.iaload, 1) := by decide +kernel
theorem dX12_layTrail_43 : decode cX12_layTrail 43 = .ok (.iload_n 2, 1) := by decide +kernel
theorem dX12_layTrail_44 : decode cX12_layTrail 44 = .ok (.iadd, 1) := by decide +kernel
theorem dX12_layTrail_45 : decode cX12_layTrail 45 = .ok (.invokevirtual 298, 3) := by decide +kernel
theorem dX12_layTrail_48 : decode cX12_layTrail 48 = .ok (.iastore, 1) := by decide +kernel
theorem dX12_layTrail_49 : decode cX12_layTrail 49 = .ok (.iinc 2 1, 3) := by decide +kernel
theorem dX12_layTrail_52 : decode cX12_layTrail 52 = .ok (.goto (-38), 3) := by decide +kernel
theorem dX12_layTrail_55 : decode cX12_layTrail 55 = .ok (.return_, 1) := by decide +kernel
theorem dX12_standsBy_0 : decode cX12_standsBy 0 = .ok (.iconst 1, 1) := by decide +kernel
theorem dX12_standsBy_1 : decode cX12_standsBy 1 = .ok (.istore_n 2, 1) := by decide +kernel
theorem dX12_standsBy_2 : decode cX12_standsBy 2 = .ok (.iload_n 2, 1) := by decide +kernel
theorem dX12_standsBy_3 : decode cX12_standsBy 3 = .ok (.bipush 6, 2) := by decide +kernel
theorem dX12_standsBy_5 : decode cX12_standsBy 5 = .ok (.if_icmp .gt 28, 3) := by decide +kernel
theorem dX12_standsBy_8 : decode cX12_standsBy 8 = .ok (.aload_n 0, 1) := by decide +kernel
theorem dX12_standsBy_9 : decode cX12_standsBy 9 = .ok (.getfield 68, 3) := by decide +kernel
theorem dX12_standsBy_12 : decode cX12_standsBy 12 = .ok (.iload_n 2, 1) := by decide +kernel
theorem dX12_standsBy_13 : decode cX12_standsBy 13 = .ok (.iload_n 1, 1) := by decide +kernel
theorem dX12_standsBy_14 : decode cX12_standsBy 14 = .ok (.imul, 1) := by decide +kernel
theorem dX12_standsBy_15 : decode cX12_standsBy 15 = .ok (.iaload, 1) := by decide +kernel
theorem dX12_standsBy_16 : decode cX12_standsBy 16 = .ok (.aload_n 0, 1) := by decide +kernel
theorem dX12_standsBy_17 : decode cX12_standsBy 17 = .ok (.getfield 68, 3) := by decide +kernel
theorem dX12_standsBy_20 : decode cX12_standsBy 20 = .ok (.iconst 0, 1) := by decide +kernel
theorem dX12_standsBy_21 : decode cX12_standsBy 21 = .ok (.iaload, 1) := by decide +kernel
theorem dX12_standsBy_22 : decode cX12_standsBy 22 = .ok (.if_icmp .eq 5, 3) := by decide +kernel
theorem dX12_standsBy_25 : decode cX12_standsBy 25 = .ok (.iconst 0, 1) := by decide +kernel
theorem dX12_standsBy_26 : decode cX12_standsBy 26 = .ok (.ireturn, 1) := by decide +kernel
theorem dX12_standsBy_27 : decode cX12_standsBy 27 = .ok (.iinc 2 1, 3) := by decide +kernel
theorem dX12_standsBy_30 : decode cX12_standsBy 30 = .ok (.goto (-28), 3) := by decide +kernel
theorem dX12_standsBy_33 : decode cX12_standsBy 33 = .ok (.iconst 1, 1) := by decide +kernel
theorem dX12_standsBy_34 : decode cX12_standsBy 34 = .ok (.ireturn, 1) := by decide +kernel
theorem dX12_stands_0 : decode cX12_stands 0 = .ok (.aload_n 0, 1) := by decide +kernel
theorem dX12_stands_1 : decode cX12_stands 1 = .ok (.iload_n 1, 1) := by decide +kernel
theorem dX12_stands_2 : decode cX12_stands 2 = .ok (.invokevirtual 307, 3) := by decide +kernel
theorem dX12_stands_5 : decode cX12_stands 5 = .ok (.ifCond .eq 8, 3) := by decide +kernel
theorem dX12_stands_8 : decode cX12_stands 8 = .ok (.iload_n 2, 1) := by decide +kernel
theorem dX12_stands_9 : decode cX12_stands 9 = .ok (.iconst (-1), 1) := by decide +kernel
theorem dX12_stands_10 : decode cX12_stands 10 = .ok (.if_icmp .ge 5, 3) := by decide +kernel
theorem dX12_stands_13 : decode cX12_stands 13 = .ok (.iconst (-1), 1) := by decide +kernel
theorem dX12_stands_14 : decode cX12_stands 14 = .ok (.ireturn, 1) := by decide +kernel
theorem dX12_stands_15 : decode cX12_stands 15 = .ok (.aload_n 0, 1) := by decide +kernel
theorem dX12_stands_16 : decode cX12_stands 16 = .ok (.iload_n 1, 1) := by decide +kernel
theorem dX12_stands_17 : decode cX12_stands 17 = .ok (.invokevirtual 346, 3) := by decide +kernel
theorem dX12_stands_20 : decode cX12_stands 20 = .ok (.iconst 0, 1) := by decide +kernel
theorem dX12_stands_21 : decode cX12_stands 21 = .ok (.istore_n 3, 1) := by decide +kernel
theorem dX12_stands_22 : decode cX12_stands 22 = .ok (.iconst 1, 1) := by decide +kernel
theorem dX12_stands_23 : decode cX12_stands 23 = .ok (.istore 4, 2) := by decide +kernel
theorem dX12_stands_25 : decode cX12_stands 25 = .ok (.iload 4, 2) := by decide +kernel
theorem dX12_stands_27 : decode cX12_stands 27 = .ok (.bipush 60, 2) := by decide +kernel
theorem dX12_stands_29 : decode cX12_stands 29 = .ok (.if_icmp .gt 29, 3) := by decide +kernel
theorem dX12_stands_32 : decode cX12_stands 32 = .ok (.aload_n 0, 1) := by decide +kernel
theorem dX12_stands_33 : decode cX12_stands 33 = .ok (.iload 4, 2) := by decide +kernel
theorem dX12_stands_35 : decode cX12_stands 35 = .ok (.invokevirtual 349, 3) := by decide +kernel
theorem dX12_stands_38 : decode cX12_stands 38 = .ok (.ifCond .eq 14, 3) := by decide +kernel
theorem dX12_stands_41 : decode cX12_stands 41 = .ok (.iload_n 3, 1) := by decide +kernel
theorem dX12_stands_42 : decode cX12_stands 42 = .ok (.iload_n 2, 1) := by decide +kernel
theorem dX12_stands_43 : decode cX12_stands 43 = .ok (.if_icmp .ne 6, 3) := by decide +kernel
theorem dX12_stands_46 : decode cX12_stands 46 = .ok (.iload 4, 2) := by decide +kernel
theorem dX12_stands_48 : decode cX12_stands 48 = .ok (.ireturn, 1) := by decide +kernel
theorem dX12_stands_49 : decode cX12_stands 49 = .ok (.iinc 3 1, 3) := by decide +kernel
theorem dX12_stands_52 : decode cX12_stands 52 = .ok (.iinc 4 1, 3) := by decide +kernel
theorem dX12_stands_55 : decode cX12_stands 55 = .ok (.goto (-30), 3) := by decide +kernel
theorem dX12_stands_58 : decode cX12_stands 58 = .ok (.iload_n 2, 1) := by decide +kernel
theorem dX12_stands_59 : decode cX12_stands 59 = .ok (.iconst (-1), 1) := by decide +kernel
theorem dX12_stands_60 : decode cX12_stands 60 = .ok (.if_icmp .ne 7, 3) := by decide +kernel
theorem dX12_stands_63 : decode cX12_stands 63 = .ok (.iload_n 3, 1) := by decide +kernel
theorem dX12_stands_64 : decode cX12_stands 64 = .ok (.goto 4, 3) := by decide +kernel
theorem dX12_stands_67 : decode cX12_stands 67 = .ok (.iconst (-1), 1) := by decide +kernel
theorem dX12_stands_68 : decode cX12_stands 68 = .ok (.ireturn, 1) := by decide +kernel
theorem dX12_together_0 : decode cX12_together 0 = .ok (.aload_n 0, 1) := by decide +kernel
theorem dX12_together_1 : decode cX12_together 1 = .ok (.getfield 263, 3) := by decide +kernel
theorem dX12_together_4 : decode cX12_together 4 = .ok (.ifCond .ne 5, 3) := by decide +kernel
theorem dX12_together_7 : decode cX12_together 7 = .ok (.iconst (-1), 1) := by decide +kernel
theorem dX12_together_8 : decode cX12_together 8 = .ok (.ireturn, 1) := by decide +kernel
theorem dX12_together_9 : decode cX12_together 9 = .ok (.iconst 1, 1) := by decide +kernel
theorem dX12_together_10 : decode cX12_together 10 = .ok (.istore_n 1, 1) := by decide +kernel
theorem dX12_together_11 : decode cX12_together 11 = .ok (.iload_n 1, 1) := by decide +kernel
theorem dX12_together_12 : decode cX12_together 12 = .ok (.bipush 60, 2) := by decide +kernel
theorem dX12_together_14 : decode cX12_together 14 = .ok (.if_icmp .gt 16, 3) := by decide +kernel
theorem dX12_together_17 : decode cX12_together 17 = .ok (.aload_n 0, 1) := by decide +kernel
theorem dX12_together_18 : decode cX12_together 18 = .ok (.getfield 71, 3) := by decide +kernel
theorem dX12_together_21 : decode cX12_together 21 = .ok (.iload_n 1, 1) := by decide +kernel
theorem dX12_together_22 : decode cX12_together 22 = .ok (.iconst 0, 1) := by decide +kernel
theorem dX12_together_23 : decode cX12_together 23 = .ok (.iastore, 1) := by decide +kernel
theorem dX12_together_24 : decode cX12_together 24 = .ok (.iinc 1 1, 3) := by decide +kernel
theorem dX12_together_27 : decode cX12_together 27 = .ok (.goto (-16), 3) := by decide +kernel
theorem dX12_together_30 : decode cX12_together 30 = .ok (.iconst 0, 1) := by decide +kernel
theorem dX12_together_31 : decode cX12_together 31 = .ok (.istore_n 1, 1) := by decide +kernel
theorem dX12_together_32 : decode cX12_together 32 = .ok (.iload_n 1, 1) := by decide +kernel
theorem dX12_together_33 : decode cX12_together 33 = .ok (.aload_n 0, 1) := by decide +kernel
theorem dX12_together_34 : decode cX12_together 34 = .ok (.getfield 263, 3) := by decide +kernel
theorem dX12_together_37 : decode cX12_together 37 = .ok (.if_icmp .ge 50, 3) := by decide +kernel
theorem dX12_together_40 : decode cX12_together 40 = .ok (.aload_n 0, 1) := by decide +kernel
theorem dX12_together_41 : decode cX12_together 41 = .ok (.iload_n 1, 1) := by decide +kernel
theorem dX12_together_42 : decode cX12_together 42 = .ok (.invokevirtual 346, 3) := by decide +kernel
theorem dX12_together_45 : decode cX12_together 45 = .ok (.iconst 1, 1) := by decide +kernel
theorem dX12_together_46 : decode cX12_together 46 = .ok (.istore_n 2, 1) := by decide +kernel
theorem dX12_together_47 : decode cX12_together 47 = .ok (.iload_n 2, 1) := by decide +kernel
theorem dX12_together_48 : decode cX12_together 48 = .ok (.bipush 60, 2) := by decide +kernel
theorem dX12_together_50 : decode cX12_together 50 = .ok (.if_icmp .gt 31, 3) := by decide +kernel
theorem dX12_together_53 : decode cX12_together 53 = .ok (.aload_n 0, 1) := by decide +kernel
theorem dX12_together_54 : decode cX12_together 54 = .ok (.getfield 71, 3) := by decide +kernel
theorem dX12_together_57 : decode cX12_together 57 = .ok (.iload_n 2, 1) := by decide +kernel
theorem dX12_together_58 : decode cX12_together 58 = .ok (.dup2, 1) := by decide +kernel
theorem dX12_together_59 : decode cX12_together 59 = .ok (.iaload, 1) := by decide +kernel
theorem dX12_together_60 : decode cX12_together 60 = .ok (.aload_n 0, 1) := by decide +kernel
theorem dX12_together_61 : decode cX12_together 61 = .ok (.iload_n 2, 1) := by decide +kernel
theorem dX12_together_62 : decode cX12_together 62 = .ok (.invokevirtual 349, 3) := by decide +kernel
theorem dX12_together_65 : decode cX12_together 65 = .ok (.ifCond .eq 7, 3) := by decide +kernel
theorem dX12_together_68 : decode cX12_together 68 = .ok (.iconst 1, 1) := by decide +kernel
theorem dX12_together_69 : decode cX12_together 69 = .ok (.goto 4, 3) := by decide +kernel
theorem dX12_together_72 : decode cX12_together 72 = .ok (.iconst 0, 1) := by decide +kernel
theorem dX12_together_73 : decode cX12_together 73 = .ok (.iadd, 1) := by decide +kernel
theorem dX12_together_74 : decode cX12_together 74 = .ok (.iastore, 1) := by decide +kernel
theorem dX12_together_75 : decode cX12_together 75 = .ok (.iinc 2 1, 3) := by decide +kernel
theorem dX12_together_78 : decode cX12_together 78 = .ok (.goto (-31), 3) := by decide +kernel
theorem dX12_together_81 : decode cX12_together 81 = .ok (.iinc 1 1, 3) := by decide +kernel
theorem dX12_together_84 : decode cX12_together 84 = .ok (.goto (-52), 3) := by decide +kernel
theorem dX12_together_87 : decode cX12_together 87 = .ok (.iconst (-1), 1) := by decide +kernel
theorem dX12_together_88 : decode cX12_together 88 = .ok (.istore_n 1, 1) := by decide +kernel
theorem dX12_together_89 : decode cX12_together 89 = .ok (.bipush 60, 2) := by decide +kernel
theorem dX12_together_91 : decode cX12_together 91 = .ok (.istore_n 2, 1) := by decide +kernel
theorem dX12_together_92 : decode cX12_together 92 = .ok (.iload_n 2, 1) := by decide +kernel
theorem dX12_together_93 : decode cX12_together 93 = .ok (.iconst 1, 1) := by decide +kernel
theorem dX12_together_94 : decode cX12_together 94 = .ok (.if_icmp .lt 28, 3) := by decide +kernel
theorem dX12_together_97 : decode cX12_together 97 = .ok (.aload_n 0, 1) := by decide +kernel
theorem dX12_together_98 : decode cX12_together 98 = .ok (.getfield 71, 3) := by decide +kernel
theorem dX12_together_101 : decode cX12_together 101 = .ok (.iload_n 2, 1) := by decide +kernel
theorem dX12_together_102 : decode cX12_together 102 = .ok (.iaload, 1) := by decide +kernel
theorem dX12_together_103 : decode cX12_together 103 = .ok (.aload_n 0, 1) := by decide +kernel
theorem dX12_together_104 : decode cX12_together 104 = .ok (.getfield 263, 3) := by decide +kernel
theorem dX12_together_107 : decode cX12_together 107 = .ok (.if_icmp .ne 7, 3) := by decide +kernel
theorem dX12_together_110 : decode cX12_together 110 = .ok (.iload_n 2, 1) := by decide +kernel
theorem dX12_together_111 : decode cX12_together 111 = .ok (.goto 4, 3) := by decide +kernel
theorem dX12_together_114 : decode cX12_together 114 = .ok (.iload_n 1, 1) := by decide +kernel
theorem dX12_together_115 : decode cX12_together 115 = .ok (.istore_n 1, 1) := by decide +kernel
theorem dX12_together_116 : decode cX12_together 116 = .ok (.iinc 2 (-1), 3) := by decide +kernel
theorem dX12_together_119 : decode cX12_together 119 = .ok (.goto (-27), 3) := by decide +kernel
theorem dX12_together_122 : decode cX12_together 122 = .ok (.iload_n 1, 1) := by decide +kernel
theorem dX12_together_123 : decode cX12_together 123 = .ok (.ireturn, 1) := by decide +kernel
theorem dX12_startSpots_0 : decode cX12_startSpots 0 = .ok (.iconst 0, 1) := by decide +kernel
theorem dX12_startSpots_1 : decode cX12_startSpots 1 = .ok (.istore_n 1, 1) := by decide +kernel
theorem dX12_startSpots_2 : decode cX12_startSpots 2 = .ok (.iload_n 1, 1) := by decide +kernel
theorem dX12_startSpots_3 : decode cX12_startSpots 3 = .ok (.aload_n 0, 1) := by decide +kernel
theorem dX12_startSpots_4 : decode cX12_startSpots 4 = .ok (.getfield 263, 3) := by decide +kernel
theorem dX12_startSpots_7 : decode cX12_startSpots 7 = .ok (.if_icmp .ge 21, 3) := by decide +kernel
theorem dX12_startSpots_10 : decode cX12_startSpots 10 = .ok (.aload_n 0, 1) := by decide +kernel
theorem dX12_startSpots_11 : decode cX12_startSpots 11 = .ok (.getfield 74, 3) := by decide +kernel
theorem dX12_startSpots_14 : decode cX12_startSpots 14 = .ok (.iload_n 1, 1) := by decide +kernel
theorem dX12_startSpots_15 : decode cX12_startSpots 15 = .ok (.aload_n 0, 1) := by decide +kernel
theorem dX12_startSpots_16 : decode cX12_startSpots 16 = .ok (.iload_n 1, 1) := by decide +kernel
theorem dX12_startSpots_17 : decode cX12_startSpots 17 = .ok (.iconst 2, 1) := by decide +kernel
theorem dX12_startSpots_18 : decode cX12_startSpots 18 = .ok (.invokevirtual 254, 3) := by decide +kernel
theorem dX12_startSpots_21 : decode cX12_startSpots 21 = .ok (.iastore, 1) := by decide +kernel
theorem dX12_startSpots_22 : decode cX12_startSpots 22 = .ok (.iinc 1 1, 3) := by decide +kernel
theorem dX12_startSpots_25 : decode cX12_startSpots 25 = .ok (.goto (-23), 3) := by decide +kernel
theorem dX12_startSpots_28 : decode cX12_startSpots 28 = .ok (.return_, 1) := by decide +kernel
theorem dX12_goSpots_0 : decode cX12_goSpots 0 = .ok (.iconst 0, 1) := by decide +kernel
theorem dX12_goSpots_1 : decode cX12_goSpots 1 = .ok (.istore_n 2, 1) := by decide +kernel
theorem dX12_goSpots_2 : decode cX12_goSpots 2 = .ok (.iload_n 2, 1) := by decide +kernel
theorem dX12_goSpots_3 : decode cX12_goSpots 3 = .ok (.aload_n 0, 1) := by decide +kernel
theorem dX12_goSpots_4 : decode cX12_goSpots 4 = .ok (.getfield 263, 3) := by decide +kernel
theorem dX12_goSpots_7 : decode cX12_goSpots 7 = .ok (.if_icmp .ge 27, 3) := by decide +kernel
theorem dX12_goSpots_10 : decode cX12_goSpots 10 = .ok (.aload_n 0, 1) := by decide +kernel
theorem dX12_goSpots_11 : decode cX12_goSpots 11 = .ok (.getfield 74, 3) := by decide +kernel
theorem dX12_goSpots_14 : decode cX12_goSpots 14 = .ok (.iload_n 2, 1) := by decide +kernel
theorem dX12_goSpots_15 : decode cX12_goSpots 15 = .ok (.aload_n 0, 1) := by decide +kernel
theorem dX12_goSpots_16 : decode cX12_goSpots 16 = .ok (.iload_n 2, 1) := by decide +kernel
theorem dX12_goSpots_17 : decode cX12_goSpots 17 = .ok (.aload_n 0, 1) := by decide +kernel
theorem dX12_goSpots_18 : decode cX12_goSpots 18 = .ok (.getfield 74, 3) := by decide +kernel
theorem dX12_goSpots_21 : decode cX12_goSpots 21 = .ok (.iload_n 2, 1) := by decide +kernel
theorem dX12_goSpots_22 : decode cX12_goSpots 22 = .ok (.iaload, 1) := by decide +kernel
theorem dX12_goSpots_23 : decode cX12_goSpots 23 = .ok (.iload_n 1, 1) := by decide +kernel
theorem dX12_goSpots_24 : decode cX12_goSpots 24 = .ok (.invokevirtual 298, 3) := by decide +kernel
theorem dX12_goSpots_27 : decode cX12_goSpots 27 = .ok (.iastore, 1) := by decide +kernel
theorem dX12_goSpots_28 : decode cX12_goSpots 28 = .ok (.iinc 2 1, 3) := by decide +kernel
theorem dX12_goSpots_31 : decode cX12_goSpots 31 = .ok (.goto (-29), 3) := by decide +kernel
theorem dX12_goSpots_34 : decode cX12_goSpots 34 = .ok (.return_, 1) := by decide +kernel
theorem dX12_areHome_0 : decode cX12_areHome 0 = .ok (.iconst 1, 1) := by decide +kernel
theorem dX12_areHome_1 : decode cX12_areHome 1 = .ok (.istore_n 2, 1) := by decide +kernel
theorem dX12_areHome_2 : decode cX12_areHome 2 = .ok (.iconst 0, 1) := by decide +kernel
theorem dX12_areHome_3 : decode cX12_areHome 3 = .ok (.istore_n 3, 1) := by decide +kernel
theorem dX12_areHome_4 : decode cX12_areHome 4 = .ok (.iload_n 3, 1) := by decide +kernel
theorem dX12_areHome_5 : decode cX12_areHome 5 = .ok (.aload_n 0, 1) := by decide +kernel
theorem dX12_areHome_6 : decode cX12_areHome 6 = .ok (.getfield 263, 3) := by decide +kernel
theorem dX12_areHome_9 : decode cX12_areHome 9 = .ok (.if_icmp .ge 44, 3) := by decide +kernel
theorem dX12_areHome_12 : decode cX12_areHome 12 = .ok (.iload_n 2, 1) := by decide +kernel
theorem dX12_areHome_13 : decode cX12_areHome 13 = .ok (.ifCond .eq 32, 3) := by decide +kernel
theorem dX12_areHome_16 : decode cX12_areHome 16 = .ok (.iload_n 1, 1) := by decide +kernel
theorem dX12_areHome_17 : decode cX12_areHome 17 = .ok (.iconst (-1), 1) := by decide +kernel
theorem dX12_areHome_18 : decode cX12_areHome 18 = .ok (.if_icmp .eq 8, 3) := by decide +kernel
theorem dX12_areHome_21 : decode cX12_areHome 21 = .ok (.iload_n 3, 1) := by decide +kernel
theorem dX12_areHome_22 : decode cX12_areHome 22 = .ok (.iload_n 1, 1) := by decide +kernel
theorem dX12_areHome_23 : decode cX12_areHome 23 = .ok (.if_icmp .ne 18, 3) := by decide +kernel
theorem dX12_areHome_26 : decode cX12_areHome 26 = .ok (.aload_n 0, 1) := by decide +kernel
theorem dX12_areHome_27 : decode cX12_areHome 27 = .ok (.getfield 74, 3) := by decide +kernel
theorem dX12_areHome_30 : decode cX12_areHome 30 = .ok (.iload_n 3, 1) := by decide +kernel
theorem dX12_areHome_31 : decode cX12_areHome 31 = .ok (.iaload, 1) := by decide +kernel
theorem dX12_areHome_32 : decode cX12_areHome 32 = .ok (.aload_n 0, 1) := by decide +kernel
theorem dX12_areHome_33 : decode cX12_areHome 33 = .ok (.iload_n 3, 1) := by decide +kernel
theorem dX12_areHome_34 : decode cX12_areHome 34 = .ok (.iconst 2, 1) := by decide +kernel
theorem dX12_areHome_35 : decode cX12_areHome 35 = .ok (.invokevirtual 254, 3) := by decide +kernel
theorem dX12_areHome_38 : decode cX12_areHome 38 = .ok (.if_icmp .ne 7, 3) := by decide +kernel
theorem dX12_areHome_41 : decode cX12_areHome 41 = .ok (.iconst 1, 1) := by decide +kernel
theorem dX12_areHome_42 : decode cX12_areHome 42 = .ok (.goto 4, 3) := by decide +kernel
theorem dX12_areHome_45 : decode cX12_areHome 45 = .ok (.iconst 0, 1) := by decide +kernel
theorem dX12_areHome_46 : decode cX12_areHome 46 = .ok (.istore_n 2, 1) := by decide +kernel
theorem dX12_areHome_47 : decode cX12_areHome 47 = .ok (.iinc 3 1, 3) := by decide +kernel
theorem dX12_areHome_50 : decode cX12_areHome 50 = .ok (.goto (-46), 3) := by decide +kernel
theorem dX12_areHome_53 : decode cX12_areHome 53 = .ok (.iload_n 2, 1) := by decide +kernel
theorem dX12_areHome_54 : decode cX12_areHome 54 = .ok (.ireturn, 1) := by decide +kernel
theorem dX12_again_0 : decode cX12_again 0 = .ok (.aload_n 0, 1) := by decide +kernel
theorem dX12_again_1 : decode cX12_again 1 = .ok (.getfield 263, 3) := by decide +kernel
theorem dX12_again_4 : decode cX12_again 4 = .ok (.ifCond .eq 16, 3) := by decide +kernel
theorem dX12_again_7 : decode cX12_again 7 = .ok (.iload_n 1, 1) := by decide +kernel
theorem dX12_again_8 : decode cX12_again 8 = .ok (.iconst (-1), 1) := by decide +kernel
theorem dX12_again_9 : decode cX12_again 9 = .ok (.if_icmp .eq 13, 3) := by decide +kernel
theorem dX12_again_12 : decode cX12_again 12 = .ok (.aload_n 0, 1) := by decide +kernel
theorem dX12_again_13 : decode cX12_again 13 = .ok (.iload_n 1, 1) := by decide +kernel
theorem dX12_again_14 : decode cX12_again 14 = .ok (.invokevirtual 307, 3) := by decide +kernel
theorem dX12_again_17 : decode cX12_again 17 = .ok (.ifCond .ne 5, 3) := by decide +kernel
theorem dX12_again_20 : decode cX12_again 20 = .ok (.iconst (-1), 1) := by decide +kernel
theorem dX12_again_21 : decode cX12_again 21 = .ok (.ireturn, 1) := by decide +kernel
theorem dX12_again_22 : decode cX12_again 22 = .ok (.aload_n 0, 1) := by decide +kernel
theorem dX12_again_23 : decode cX12_again 23 = .ok (.invokevirtual 352, 3) := by decide +kernel
theorem dX12_again_26 : decode cX12_again 26 = .ok (.iload_n 1, 1) := by decide +kernel
theorem dX12_again_27 : decode cX12_again 27 = .ok (.iconst (-1), 1) := by decide +kernel
theorem dX12_again_28 : decode cX12_again 28 = .ok (.if_icmp .ne 9, 3) := by decide +kernel
theorem dX12_again_31 : decode cX12_again 31 = .ok (.sipush 9999, 3) := by decide +kernel
theorem dX12_again_34 : decode cX12_again 34 = .ok (.goto 6, 3) := by decide +kernel
theorem dX12_again_37 : decode cX12_again 37 = .ok (.sipush 999, 3) := by decide +kernel
theorem dX12_again_40 : decode cX12_again 40 = .ok (.istore_n 2, 1) := by decide +kernel
theorem dX12_again_41 : decode cX12_again 41 = .ok (.iconst 1, 1) := by decide +kernel
theorem dX12_again_42 : decode cX12_again 42 = .ok (.istore_n 3, 1) := by decide +kernel
theorem dX12_again_43 : decode cX12_again 43 = .ok (.iload_n 3, 1) := by decide +kernel
theorem dX12_again_44 : decode cX12_again 44 = .ok (.iload_n 2, 1) := by decide +kernel
theorem dX12_again_45 : decode cX12_again 45 = .ok (.if_icmp .gt 34, 3) := by decide +kernel
theorem dX12_again_48 : decode cX12_again 48 = .ok (.aload_n 0, 1) := by decide +kernel
theorem dX12_again_49 : decode cX12_again 49 = .ok (.aload_n 0, 1) := by decide +kernel
theorem dX12_again_50 : decode cX12_again 50 = .ok (.getfield 52, 3) := by decide +kernel
theorem dX12_again_53 : decode cX12_again 53 = .ok (.bipush 19, 2) := by decide +kernel
theorem dX12_again_55 : decode cX12_again 55 = .ok (.iaload, 1) := by decide +kernel
theorem dX12_again_56 : decode cX12_again 56 = .ok (.iload_n 3, 1) := by decide +kernel
theorem dX12_again_57 : decode cX12_again 57 = .ok (.iadd, 1) := by decide +kernel
theorem dX12_again_58 : decode cX12_again 58 = .ok (.iconst 1, 1) := by decide +kernel
theorem dX12_again_59 : decode cX12_again 59 = .ok (.isub, 1) := by decide +kernel
theorem dX12_again_60 : decode cX12_again 60 = .ok (.invokevirtual 355, 3) := by decide +kernel
theorem dX12_again_63 : decode cX12_again 63 = .ok (.aload_n 0, 1) := by decide +kernel
theorem dX12_again_64 : decode cX12_again 64 = .ok (.iload_n 1, 1) := by decide +kernel
theorem dX12_again_65 : decode cX12_again 65 = .ok (.invokevirtual 358, 3) := by decide +kernel
theorem dX12_again_68 : decode cX12_again 68 = .ok (.ifCond .eq 5, 3) := by decide +kernel
theorem dX12_again_71 : decode cX12_again 71 = .ok (.iload_n 3, 1) := by decide +kernel
theorem dX12_again_72 : decode cX12_again 72 = .ok (.ireturn, 1) := by decide +kernel
theorem dX12_again_73 : decode cX12_again 73 = .ok (.iinc 3 1, 3) := by decide +kernel
theorem dX12_again_76 : decode cX12_again 76 = .ok (.goto (-33), 3) := by decide +kernel
theorem dX12_again_79 : decode cX12_again 79 = .ok (.iconst (-1), 1) := by decide +kernel
theorem dX12_again_80 : decode cX12_again 80 = .ok (.ireturn, 1) := by decide +kernel
theorem dX12_spotShows_0 : decode cX12_spotShows 0 = .ok (.aload_n 0, 1) := by decide +kernel
theorem dX12_spotShows_1 : decode cX12_spotShows 1 = .ok (.aload_n 0, 1) := by decide +kernel
theorem dX12_spotShows_2 : decode cX12_spotShows 2 = .ok (.iload_n 1, 1) := by decide +kernel
theorem dX12_spotShows_3 : decode cX12_spotShows 3 = .ok (.iconst 3, 1) := by decide +kernel
theorem dX12_spotShows_4 : decode cX12_spotShows 4 = .ok (.invokevirtual 254, 3) := by decide +kernel
theorem dX12_spotShows_7 : decode cX12_spotShows 7 = .ok (.aload_n 0, 1) := by decide +kernel
theorem dX12_spotShows_8 : decode cX12_spotShows 8 = .ok (.getfield 74, 3) := by decide +kernel
theorem dX12_spotShows_11 : decode cX12_spotShows 11 = .ok (.iload_n 1, 1) := by decide +kernel
theorem dX12_spotShows_12 : decode cX12_spotShows 12 = .ok (.iaload, 1) := by decide +kernel
theorem dX12_spotShows_13 : decode cX12_spotShows 13 = .ok (.invokevirtual 260, 3) := by decide +kernel
theorem dX12_spotShows_16 : decode cX12_spotShows 16 = .ok (.ireturn, 1) := by decide +kernel
theorem dX12_meets_0 : decode cX12_meets 0 = .ok (.aload_n 0, 1) := by decide +kernel
theorem dX12_meets_1 : decode cX12_meets 1 = .ok (.iload_n 1, 1) := by decide +kernel
theorem dX12_meets_2 : decode cX12_meets 2 = .ok (.invokevirtual 307, 3) := by decide +kernel
theorem dX12_meets_5 : decode cX12_meets 5 = .ok (.ifCond .eq 16, 3) := by decide +kernel
theorem dX12_meets_8 : decode cX12_meets 8 = .ok (.aload_n 0, 1) := by decide +kernel
theorem dX12_meets_9 : decode cX12_meets 9 = .ok (.iload_n 2, 1) := by decide +kernel
theorem dX12_meets_10 : decode cX12_meets 10 = .ok (.invokevirtual 307, 3) := by decide +kernel
theorem dX12_meets_13 : decode cX12_meets 13 = .ok (.ifCond .eq 8, 3) := by decide +kernel
theorem dX12_meets_16 : decode cX12_meets 16 = .ok (.iload_n 1, 1) := by decide +kernel
theorem dX12_meets_17 : decode cX12_meets 17 = .ok (.iload_n 2, 1) := by decide +kernel
theorem dX12_meets_18 : decode cX12_meets 18 = .ok (.if_icmp .ne 5, 3) := by decide +kernel
theorem dX12_meets_21 : decode cX12_meets 21 = .ok (.iconst (-1), 1) := by decide +kernel
theorem dX12_meets_22 : decode cX12_meets 22 = .ok (.ireturn, 1) := by decide +kernel
theorem dX12_meets_23 : decode cX12_meets 23 = .ok (.aload_n 0, 1) := by decide +kernel
theorem dX12_meets_24 : decode cX12_meets 24 = .ok (.invokevirtual 352, 3) := by decide +kernel
theorem dX12_meets_27 : decode cX12_meets 27 = .ok (.iconst 0, 1) := by decide +kernel
theorem dX12_meets_28 : decode cX12_meets 28 = .ok (.istore_n 3, 1) := by decide +kernel
theorem dX12_meets_29 : decode cX12_meets 29 = .ok (.iload_n 3, 1) := by decide +kernel
theorem dX12_meets_30 : decode cX12_meets 30 = .ok (.sipush 999, 3) := by decide +kernel
theorem dX12_meets_33 : decode cX12_meets 33 = .ok (.if_icmp .gt 47, 3) := by decide +kernel
theorem dX12_meets_36 : decode cX12_meets 36 = .ok (.aload_n 0, 1) := by decide +kernel
theorem dX12_meets_37 : decode cX12_meets 37 = .ok (.iload_n 1, 1) := by decide +kernel
theorem dX12_meets_38 : decode cX12_meets 38 = .ok (.invokevirtual 361, 3) := by decide +kernel
theorem dX12_meets_41 : decode cX12_meets 41 = .ok (.bipush 26, 2) := by decide +kernel
theorem dX12_meets_43 : decode cX12_meets 43 = .ok (.if_icmp .eq 18, 3) := by decide +kernel
theorem dX12_meets_46 : decode cX12_meets 46 = .ok (.aload_n 0, 1) := by decide +kernel
theorem dX12_meets_47 : decode cX12_meets 47 = .ok (.iload_n 1, 1) := by decide +kernel
theorem dX12_meets_48 : decode cX12_meets 48 = .ok (.invokevirtual 361, 3) := by decide +kernel
theorem dX12_meets_51 : decode cX12_meets 51 = .ok (.aload_n 0, 1) := by decide +kernel
theorem dX12_meets_52 : decode cX12_meets 52 = .ok (.iload_n 2, 1) := by decide +kernel
theorem dX12_meets_53 : decode cX12_meets 53 = .ok (.invokevirtual 361, 3) := by decide +kernel
theorem dX12_meets_56 : decode cX12_meets 56 = .ok (.if_icmp .ne 5, 3) := by decide +kernel
theorem dX12_meets_59 : decode cX12_meets 59 = .ok (.iload_n 3, 1) := by decide +kernel
theorem dX12_meets_60 : decode cX12_meets 60 = .ok (.ireturn, 1) := by decide +kernel
theorem dX12_meets_61 : decode cX12_meets 61 = .ok (.aload_n 0, 1) := by decide +kernel
theorem dX12_meets_62 : decode cX12_meets 62 = .ok (.aload_n 0, 1) := by decide +kernel
theorem dX12_meets_63 : decode cX12_meets 63 = .ok (.getfield 52, 3) := by decide +kernel
theorem dX12_meets_66 : decode cX12_meets 66 = .ok (.bipush 19, 2) := by decide +kernel
theorem dX12_meets_68 : decode cX12_meets 68 = .ok (.iaload, 1) := by decide +kernel
theorem dX12_meets_69 : decode cX12_meets 69 = .ok (.iload_n 3, 1) := by decide +kernel
theorem dX12_meets_70 : decode cX12_meets 70 = .ok (.iadd, 1) := by decide +kernel
theorem dX12_meets_71 : decode cX12_meets 71 = .ok (.invokevirtual 355, 3) := by decide +kernel
theorem dX12_meets_74 : decode cX12_meets 74 = .ok (.iinc 3 1, 3) := by decide +kernel
theorem dX12_meets_77 : decode cX12_meets 77 = .ok (.goto (-48), 3) := by decide +kernel
theorem dX12_meets_80 : decode cX12_meets 80 = .ok (.iconst (-1), 1) := by decide +kernel
theorem dX12_meets_81 : decode cX12_meets 81 = .ok (.ireturn, 1) := by decide +kernel
theorem dX12_reads_0 : decode cX12_reads 0 = .ok (.aload_n 0, 1) := by decide +kernel
theorem dX12_reads_1 : decode cX12_reads 1 = .ok (.getfield 263, 3) := by decide +kernel
theorem dX12_reads_4 : decode cX12_reads 4 = .ok (.ifCond .eq 11, 3) := by decide +kernel
theorem dX12_reads_7 : decode cX12_reads 7 = .ok (.aload_n 0, 1) := by decide +kernel
theorem dX12_reads_8 : decode cX12_reads 8 = .ok (.iload_n 1, 1) := by decide +kernel
theorem dX12_reads_9 : decode cX12_reads 9 = .ok (.invokevirtual 310, 3) := by decide +kernel
theorem dX12_reads_12 : decode cX12_reads 12 = .ok (.ifCond .ne 5, 3) := by decide +kernel
theorem dX12_reads_15 : decode cX12_reads 15 = .ok (.iconst (-1), 1) := by decide +kernel
theorem dX12_reads_16 : decode cX12_reads 16 = .ok (.ireturn, 1) := by decide +kernel
theorem dX12_reads_17 : decode cX12_reads 17 = .ok (.aload_n 0, 1) := by decide +kernel
theorem dX12_reads_18 : decode cX12_reads 18 = .ok (.invokevirtual 352, 3) := by decide +kernel
theorem dX12_reads_21 : decode cX12_reads 21 = .ok (.iconst 0, 1) := by decide +kernel
theorem dX12_reads_22 : decode cX12_reads 22 = .ok (.istore_n 2, 1) := by decide +kernel
theorem dX12_reads_23 : decode cX12_reads 23 = .ok (.iload_n 2, 1) := by decide +kernel
theorem dX12_reads_24 : decode cX12_reads 24 = .ok (.sipush 999, 3) := by decide +kernel
theorem dX12_reads_27 : decode cX12_reads 27 = .ok (.if_icmp .gt 86, 3) := by decide +kernel
theorem dX12_reads_30 : decode cX12_reads 30 = .ok (.iconst 1, 1) := by decide +kernel
theorem dX12_reads_31 : decode cX12_reads 31 = .ok (.istore_n 3, 1) := by decide +kernel
theorem dX12_reads_32 : decode cX12_reads 32 = .ok (.iconst 0, 1) := by decide +kernel
theorem dX12_reads_33 : decode cX12_reads 33 = .ok (.istore 4, 2) := by decide +kernel
theorem dX12_reads_35 : decode cX12_reads 35 = .ok (.iload 4, 2) := by decide +kernel
theorem dX12_reads_37 : decode cX12_reads 37 = .ok (.aload_n 0, 1) := by decide +kernel
theorem dX12_reads_38 : decode cX12_reads 38 = .ok (.getfield 263, 3) := by decide +kernel
theorem dX12_reads_41 : decode cX12_reads 41 = .ok (.if_icmp .ge 47, 3) := by decide +kernel
theorem dX12_reads_44 : decode cX12_reads 44 = .ok (.iload_n 3, 1) := by decide +kernel
theorem dX12_reads_45 : decode cX12_reads 45 = .ok (.ifCond .eq 35, 3) := by decide +kernel
theorem dX12_reads_48 : decode cX12_reads 48 = .ok (.aload_n 0, 1) := by decide +kernel
theorem dX12_reads_49 : decode cX12_reads 49 = .ok (.iload 4, 2) := by decide +kernel
theorem dX12_reads_51 : decode cX12_reads 51 = .ok (.invokevirtual 361, 3) := by decide +kernel
theorem dX12_reads_54 : decode cX12_reads 54 = .ok (.aload_n 0, 1) := by decide +kernel
theorem dX12_reads_55 : decode cX12_reads 55 = .ok (.getfield 46, 3) := by decide +kernel
theorem dX12_reads_58 : decode cX12_reads 58 = .ok (.bipush 16, 2) := by decide +kernel
theorem dX12_reads_60 : decode cX12_reads 60 = .ok (.iload_n 1, 1) := by decide +kernel
theorem dX12_reads_61 : decode cX12_reads 61 = .ok (.imul, 1) := by decide +kernel
theorem dX12_reads_62 : decode cX12_reads 62 = .ok (.iload 4, 2) := by decide +kernel
theorem dX12_reads_64 : decode cX12_reads 64 = .ok (.aload_n 0, 1) := by decide +kernel
theorem dX12_reads_65 : decode cX12_reads 65 = .ok (.getfield 49, 3) := by decide +kernel
theorem dX12_reads_68 : decode cX12_reads 68 = .ok (.iload_n 1, 1) := by decide +kernel
theorem dX12_reads_69 : decode cX12_reads 69 = .ok (.iaload, 1) := by decide +kernel
theorem dX12_reads_70 : decode cX12_reads 70 = .ok (.irem, 1) := by decide +kernel
theorem dX12_reads_71 : decode cX12_reads 71 = .ok (.iadd, 1) := by decide +kernel
theorem dX12_reads_72 : decode cX12_reads 72 = .ok (.iaload, 1) := by decide +kernel
theorem dX12_reads_73 : decode cX12_reads 73 = .ok (.if_icmp .ne 7, 3) := by decide +kernel
theorem dX12_reads_76 : decode cX12_reads 76 = .ok (.iconst 1, 1) := by decide +kernel
theorem dX12_reads_77 : decode cX12_reads 77 = .ok (.goto 4, 3) := by decide +kernel
theorem dX12_reads_80 : decode cX12_reads 80 = .ok (.iconst 0, 1) := by decide +kernel
theorem dX12_reads_81 : decode cX12_reads 81 = .ok (.istore_n 3, 1) := by decide +kernel
theorem dX12_reads_82 : decode cX12_reads 82 = .ok (.iinc 4 1, 3) := by decide +kernel
theorem dX12_reads_85 : decode cX12_reads 85 = .ok (.goto (-50), 3) := by decide +kernel
theorem dX12_reads_88 : decode cX12_reads 88 = .ok (.iload_n 3, 1) := by decide +kernel
theorem dX12_reads_89 : decode cX12_reads 89 = .ok (.ifCond .eq 5, 3) := by decide +kernel
theorem dX12_reads_92 : decode cX12_reads 92 = .ok (.iload_n 2, 1) := by decide +kernel
theorem dX12_reads_93 : decode cX12_reads 93 = .ok (.ireturn, 1) := by decide +kernel
theorem dX12_reads_94 : decode cX12_reads 94 = .ok (.aload_n 0, 1) := by decide +kernel
theorem dX12_reads_95 : decode cX12_reads 95 = .ok (.aload_n 0, 1) := by decide +kernel
theorem dX12_reads_96 : decode cX12_reads 96 = .ok (.getfield 52, 3) := by decide +kernel
theorem dX12_reads_99 : decode cX12_reads 99 = .ok (.bipush 19, 2) := by decide +kernel
theorem dX12_reads_101 : decode cX12_reads 101 = .ok (.iaload, 1) := by decide +kernel
theorem dX12_reads_102 : decode cX12_reads 102 = .ok (.iload_n 2, 1) := by decide +kernel
theorem dX12_reads_103 : decode cX12_reads 103 = .ok (.iadd, 1) := by decide +kernel
theorem dX12_reads_104 : decode cX12_reads 104 = .ok (.invokevirtual 355, 3) := by decide +kernel
theorem dX12_reads_107 : decode cX12_reads 107 = .ok (.iinc 2 1, 3) := by decide +kernel
theorem dX12_reads_110 : decode cX12_reads 110 = .ok (.goto (-87), 3) := by decide +kernel
theorem dX12_reads_113 : decode cX12_reads 113 = .ok (.iconst (-1), 1) := by decide +kernel
theorem dX12_reads_114 : decode cX12_reads 114 = .ok (.ireturn, 1) := by decide +kernel
theorem dX12_turned_0 : decode cX12_turned 0 = .ok (.aload_n 0, 1) := by decide +kernel
theorem dX12_turned_1 : decode cX12_turned 1 = .ok (.getfield 49, 3) := by decide +kernel
theorem dX12_turned_4 : decode cX12_turned 4 = .ok (.iload_n 1, 1) := by decide +kernel
theorem dX12_turned_5 : decode cX12_turned 5 = .ok (.iaload, 1) := by decide +kernel
theorem dX12_turned_6 : decode cX12_turned 6 = .ok (.istore 5, 2) := by decide +kernel
theorem dX12_turned_8 : decode cX12_turned 8 = .ok (.iload_n 2, 1) := by decide +kernel
theorem dX12_turned_9 : decode cX12_turned 9 = .ok (.iload_n 3, 1) := by decide +kernel
theorem dX12_turned_10 : decode cX12_turned 10 = .ok (.iadd, 1) := by decide +kernel
theorem dX12_turned_11 : decode cX12_turned 11 = .ok (.iload 5, 2) := by decide +kernel
theorem dX12_turned_13 : decode cX12_turned 13 = .ok (.irem, 1) := by decide +kernel
theorem dX12_turned_14 : decode cX12_turned 14 = .ok (.istore 6, 2) := by decide +kernel
theorem dX12_turned_16 : decode cX12_turned 16 = .ok (.aload_n 0, 1) := by decide +kernel
theorem dX12_turned_17 : decode cX12_turned 17 = .ok (.getfield 46, 3) := by decide +kernel
theorem dX12_turned_20 : decode cX12_turned 20 = .ok (.bipush 16, 2) := by decide +kernel
theorem dX12_turned_22 : decode cX12_turned 22 = .ok (.iload_n 1, 1) := by decide +kernel
theorem dX12_turned_23 : decode cX12_turned 23 = .ok (.imul, 1) := by decide +kernel
theorem dX12_turned_24 : decode cX12_turned 24 = .ok (.iload 4, 2) := by decide +kernel
theorem dX12_turned_26 : decode cX12_turned 26 = .ok (.ifCond .eq 13, 3) := by decide +kernel
theorem dX12_turned_29 : decode cX12_turned 29 = .ok (.iload 5, 2) := by decide +kernel
theorem dX12_turned_31 : decode cX12_turned 31 = .ok (.iconst 1, 1) := by decide +kernel
theorem dX12_turned_32 : decode cX12_turned 32 = .ok (.isub, 1) := by decide +kernel
theorem dX12_turned_33 : decode cX12_turned 33 = .ok (.iload 6, 2) := by decide +kernel
theorem dX12_turned_35 : decode cX12_turned 35 = .ok (.isub, 1) := by decide +kernel
theorem dX12_turned_36 : decode cX12_turned 36 = .ok (.goto 5, 3) := by decide +kernel
theorem dX12_turned_39 : decode cX12_turned 39 = .ok (.iload 6, 2) := by decide +kernel
theorem dX12_turned_41 : decode cX12_turned 41 = .ok (.iadd, 1) := by decide +kernel
theorem dX12_turned_42 : decode cX12_turned 42 = .ok (.iaload, 1) := by decide +kernel
theorem dX12_turned_43 : decode cX12_turned 43 = .ok (.ireturn, 1) := by decide +kernel
theorem dX12_isAlike_0 : decode cX12_isAlike 0 = .ok (.iconst 0, 1) := by decide +kernel
theorem dX12_isAlike_1 : decode cX12_isAlike 1 = .ok (.istore 5, 2) := by decide +kernel
theorem dX12_isAlike_3 : decode cX12_isAlike 3 = .ok (.iload 5, 2) := by decide +kernel
theorem dX12_isAlike_5 : decode cX12_isAlike 5 = .ok (.aload_n 0, 1) := by decide +kernel
theorem dX12_isAlike_6 : decode cX12_isAlike 6 = .ok (.getfield 49, 3) := by decide +kernel
theorem dX12_isAlike_9 : decode cX12_isAlike 9 = .ok (.iload_n 1, 1) := by decide +kernel
theorem dX12_isAlike_10 : decode cX12_isAlike 10 = .ok (.iaload, 1) := by decide +kernel
theorem dX12_isAlike_11 : decode cX12_isAlike 11 = .ok (.if_icmp .ge 36, 3) := by decide +kernel
theorem dX12_isAlike_14 : decode cX12_isAlike 14 = .ok (.aload_n 0, 1) := by decide +kernel
theorem dX12_isAlike_15 : decode cX12_isAlike 15 = .ok (.iload_n 1, 1) := by decide +kernel
theorem dX12_isAlike_16 : decode cX12_isAlike 16 = .ok (.iload_n 2, 1) := by decide +kernel
theorem dX12_isAlike_17 : decode cX12_isAlike 17 = .ok (.iload 5, 2) := by decide +kernel
theorem dX12_isAlike_19 : decode cX12_isAlike 19 = .ok (.iload_n 3, 1) := by decide +kernel
theorem dX12_isAlike_20 : decode cX12_isAlike 20 = .ok (.invokevirtual 364, 3) := by decide +kernel
theorem dX12_isAlike_23 : decode cX12_isAlike 23 = .ok (.aload_n 0, 1) := by decide +kernel
theorem dX12_isAlike_24 : decode cX12_isAlike 24 = .ok (.getfield 46, 3) := by decide +kernel
theorem dX12_isAlike_27 : decode cX12_isAlike 27 = .ok (.bipush 16, 2) := by decide +kernel
theorem dX12_isAlike_29 : decode cX12_isAlike 29 = .ok (.iload 4, 2) := by decide +kernel
theorem dX12_isAlike_31 : decode cX12_isAlike 31 = .ok (.imul, 1) := by decide +kernel
theorem dX12_isAlike_32 : decode cX12_isAlike 32 = .ok (.iload 5, 2) := by decide +kernel
theorem dX12_isAlike_34 : decode cX12_isAlike 34 = .ok (.iadd, 1) := by decide +kernel
theorem dX12_isAlike_35 : decode cX12_isAlike 35 = .ok (.iaload, 1) := by decide +kernel
theorem dX12_isAlike_36 : decode cX12_isAlike 36 = .ok (.if_icmp .eq 5, 3) := by decide +kernel
theorem dX12_isAlike_39 : decode cX12_isAlike 39 = .ok (.iconst 0, 1) := by decide +kernel
theorem dX12_isAlike_40 : decode cX12_isAlike 40 = .ok (.ireturn, 1) := by decide +kernel
theorem dX12_isAlike_41 : decode cX12_isAlike 41 = .ok (.iinc 5 1, 3) := by decide +kernel
theorem dX12_isAlike_44 : decode cX12_isAlike 44 = .ok (.goto (-41), 3) := by decide +kernel
theorem dX12_isAlike_47 : decode cX12_isAlike 47 = .ok (.iconst 1, 1) := by decide +kernel
theorem dX12_isAlike_48 : decode cX12_isAlike 48 = .ok (.ireturn, 1) := by decide +kernel
theorem dX12_alikeBy_0 : decode cX12_alikeBy 0 = .ok (.aload_n 0, 1) := by decide +kernel
theorem dX12_alikeBy_1 : decode cX12_alikeBy 1 = .ok (.getfield 49, 3) := by decide +kernel
theorem dX12_alikeBy_4 : decode cX12_alikeBy 4 = .ok (.iload_n 1, 1) := by decide +kernel
theorem dX12_alikeBy_5 : decode cX12_alikeBy 5 = .ok (.iaload, 1) := by decide +kernel
theorem dX12_alikeBy_6 : decode cX12_alikeBy 6 = .ok (.aload_n 0, 1) := by decide +kernel
theorem dX12_alikeBy_7 : decode cX12_alikeBy 7 = .ok (.getfield 49, 3) := by decide +kernel
theorem dX12_alikeBy_10 : decode cX12_alikeBy 10 = .ok (.iload_n 2, 1) := by decide +kernel
theorem dX12_alikeBy_11 : decode cX12_alikeBy 11 = .ok (.iaload, 1) := by decide +kernel
theorem dX12_alikeBy_12 : decode cX12_alikeBy 12 = .ok (.if_icmp .eq 5, 3) := by decide +kernel
theorem dX12_alikeBy_15 : decode cX12_alikeBy 15 = .ok (.iconst (-1), 1) := by decide +kernel
theorem dX12_alikeBy_16 : decode cX12_alikeBy 16 = .ok (.ireturn, 1) := by decide +kernel
theorem dX12_alikeBy_17 : decode cX12_alikeBy 17 = .ok (.iconst 0, 1) := by decide +kernel
theorem dX12_alikeBy_18 : decode cX12_alikeBy 18 = .ok (.istore 4, 2) := by decide +kernel
theorem dX12_alikeBy_20 : decode cX12_alikeBy 20 = .ok (.iload 4, 2) := by decide +kernel
theorem dX12_alikeBy_22 : decode cX12_alikeBy 22 = .ok (.aload_n 0, 1) := by decide +kernel
theorem dX12_alikeBy_23 : decode cX12_alikeBy 23 = .ok (.getfield 49, 3) := by decide +kernel
theorem dX12_alikeBy_26 : decode cX12_alikeBy 26 = .ok (.iload_n 1, 1) := by decide +kernel
theorem dX12_alikeBy_27 : decode cX12_alikeBy 27 = .ok (.iaload, 1) := by decide +kernel
theorem dX12_alikeBy_28 : decode cX12_alikeBy 28 = .ok (.if_icmp .ge 24, 3) := by decide +kernel
theorem dX12_alikeBy_31 : decode cX12_alikeBy 31 = .ok (.aload_n 0, 1) := by decide +kernel
theorem dX12_alikeBy_32 : decode cX12_alikeBy 32 = .ok (.iload_n 1, 1) := by decide +kernel
theorem dX12_alikeBy_33 : decode cX12_alikeBy 33 = .ok (.iload 4, 2) := by decide +kernel
theorem dX12_alikeBy_35 : decode cX12_alikeBy 35 = .ok (.iload_n 3, 1) := by decide +kernel
theorem dX12_alikeBy_36 : decode cX12_alikeBy 36 = .ok (.iload_n 2, 1) := by decide +kernel
theorem dX12_alikeBy_37 : decode cX12_alikeBy 37 = .ok (.invokevirtual 368, 3) := by decide +kernel
theorem dX12_alikeBy_40 : decode cX12_alikeBy 40 = .ok (.ifCond .eq 6, 3) := by decide +kernel
theorem dX12_alikeBy_43 : decode cX12_alikeBy 43 = .ok (.iload 4, 2) := by decide +kernel
theorem dX12_alikeBy_45 : decode cX12_alikeBy 45 = .ok (.ireturn, 1) := by decide +kernel
theorem dX12_alikeBy_46 : decode cX12_alikeBy 46 = .ok (.iinc 4 1, 3) := by decide +kernel
theorem dX12_alikeBy_49 : decode cX12_alikeBy 49 = .ok (.goto (-29), 3) := by decide +kernel
theorem dX12_alikeBy_52 : decode cX12_alikeBy 52 = .ok (.iconst (-1), 1) := by decide +kernel
theorem dX12_alikeBy_53 : decode cX12_alikeBy 53 = .ok (.ireturn, 1) := by decide +kernel
theorem dX12_period_0 : decode cX12_period 0 = .ok (.aload_n 0, 1) := by decide +kernel
theorem dX12_period_1 : decode cX12_period 1 = .ok (.iload_n 1, 1) := by decide +kernel
theorem dX12_period_2 : decode cX12_period 2 = .ok (.invokevirtual 310, 3) := by decide +kernel
theorem dX12_period_5 : decode cX12_period 5 = .ok (.ifCond .ne 5, 3) := by decide +kernel
theorem dX12_period_8 : decode cX12_period 8 = .ok (.iconst (-1), 1) := by decide +kernel
theorem dX12_period_9 : decode cX12_period 9 = .ok (.ireturn, 1) := by decide +kernel
theorem dX12_period_10 : decode cX12_period 10 = .ok (.iconst 1, 1) := by decide +kernel
theorem dX12_period_11 : decode cX12_period 11 = .ok (.istore_n 2, 1) := by decide +kernel
theorem dX12_period_12 : decode cX12_period 12 = .ok (.aload_n 0, 1) := by decide +kernel
theorem dX12_period_13 : decode cX12_period 13 = .ok (.iload_n 1, 1) := by decide +kernel
theorem dX12_period_14 : decode cX12_period 14 = .ok (.iload_n 2, 1) := by decide +kernel
theorem dX12_period_15 : decode cX12_period 15 = .ok (.iconst 0, 1) := by decide +kernel
theorem dX12_period_16 : decode cX12_period 16 = .ok (.iload_n 1, 1) := by decide +kernel
theorem dX12_period_17 : decode cX12_period 17 = .ok (.invokevirtual 368, 3) := by decide +kernel
theorem dX12_period_20 : decode cX12_period 20 = .ok (.ifCond .ne 9, 3) := by decide +kernel
theorem dX12_period_23 : decode cX12_period 23 = .ok (.iinc 2 1, 3) := by decide +kernel
theorem dX12_period_26 : decode cX12_period 26 = .ok (.goto (-14), 3) := by decide +kernel
theorem dX12_period_29 : decode cX12_period 29 = .ok (.iload_n 2, 1) := by decide +kernel
theorem dX12_period_30 : decode cX12_period 30 = .ok (.ireturn, 1) := by decide +kernel
theorem dX12_isAhead_0 : decode cX12_isAhead 0 = .ok (.iconst 0, 1) := by decide +kernel
theorem dX12_isAhead_1 : decode cX12_isAhead 1 = .ok (.istore 4, 2) := by decide +kernel
theorem dX12_isAhead_3 : decode cX12_isAhead 3 = .ok (.iload 4, 2) := by decide +kernel
theorem dX12_isAhead_5 : decode cX12_isAhead 5 = .ok (.aload_n 0, 1) := by decide +kernel
theorem dX12_isAhead_6 : decode cX12_isAhead 6 = .ok (.getfield 49, 3) := by decide +kernel
theorem dX12_isAhead_9 : decode cX12_isAhead 9 = .ok (.iload_n 1, 1) := by decide +kernel
theorem dX12_isAhead_10 : decode cX12_isAhead 10 = .ok (.iaload, 1) := by decide +kernel
theorem dX12_isAhead_11 : decode cX12_isAhead 11 = .ok (.if_icmp .ge 51, 3) := by decide +kernel
theorem dX12_isAhead_14 : decode cX12_isAhead 14 = .ok (.aload_n 0, 1) := by decide +kernel
theorem dX12_isAhead_15 : decode cX12_isAhead 15 = .ok (.iload_n 1, 1) := by decide +kernel
theorem dX12_isAhead_16 : decode cX12_isAhead 16 = .ok (.iload_n 2, 1) := by decide +kernel
theorem dX12_isAhead_17 : decode cX12_isAhead 17 = .ok (.iload 4, 2) := by decide +kernel
theorem dX12_isAhead_19 : decode cX12_isAhead 19 = .ok (.iconst 0, 1) := by decide +kernel
theorem dX12_isAhead_20 : decode cX12_isAhead 20 = .ok (.invokevirtual 364, 3) := by decide +kernel
theorem dX12_isAhead_23 : decode cX12_isAhead 23 = .ok (.istore 5, 2) := by decide +kernel
theorem dX12_isAhead_25 : decode cX12_isAhead 25 = .ok (.aload_n 0, 1) := by decide +kernel
theorem dX12_isAhead_26 : decode cX12_isAhead 26 = .ok (.iload_n 1, 1) := by decide +kernel
theorem dX12_isAhead_27 : decode cX12_isAhead 27 = .ok (.iload_n 3, 1) := by decide +kernel
theorem dX12_isAhead_28 : decode cX12_isAhead 28 = .ok (.iload 4, 2) := by decide +kernel
theorem dX12_isAhead_30 : decode cX12_isAhead 30 = .ok (.iconst 0, 1) := by decide +kernel
theorem dX12_isAhead_31 : decode cX12_isAhead 31 = .ok (.invokevirtual 364, 3) := by decide +kernel
theorem dX12_isAhead_34 : decode cX12_isAhead 34 = .ok (.istore 6, 2) := by decide +kernel
theorem dX12_isAhead_36 : decode cX12_isAhead 36 = .ok (.iload 5, 2) := by decide +kernel
theorem dX12_isAhead_38 : decode cX12_isAhead 38 = .ok (.iload 6, 2) := by decide +kernel
theorem dX12_isAhead_40 : decode cX12_isAhead 40 = .ok (.if_icmp .eq 16, 3) := by decide +kernel
theorem dX12_isAhead_43 : decode cX12_isAhead 43 = .ok (.iload 5, 2) := by decide +kernel
theorem dX12_isAhead_45 : decode cX12_isAhead 45 = .ok (.iload 6, 2) := by decide +kernel
theorem dX12_isAhead_47 : decode cX12_isAhead 47 = .ok (.if_icmp .ge 7, 3) := by decide +kernel
theorem dX12_isAhead_50 : decode cX12_isAhead 50 = .ok (.iconst 1, 1) := by decide +kernel
theorem dX12_isAhead_51 : decode cX12_isAhead 51 = .ok (.goto 4, 3) := by decide +kernel
theorem dX12_isAhead_54 : decode cX12_isAhead 54 = .ok (.iconst 0, 1) := by decide +kernel
theorem dX12_isAhead_55 : decode cX12_isAhead 55 = .ok (.ireturn, 1) := by decide +kernel
theorem dX12_isAhead_56 : decode cX12_isAhead 56 = .ok (.iinc 4 1, 3) := by decide +kernel
theorem dX12_isAhead_59 : decode cX12_isAhead 59 = .ok (.goto (-56), 3) := by decide +kernel
theorem dX12_isAhead_62 : decode cX12_isAhead 62 = .ok (.iconst 0, 1) := by decide +kernel
theorem dX12_isAhead_63 : decode cX12_isAhead 63 = .ok (.ireturn, 1) := by decide +kernel
theorem dX12_least_0 : decode cX12_least 0 = .ok (.aload_n 0, 1) := by decide +kernel
theorem dX12_least_1 : decode cX12_least 1 = .ok (.iload_n 1, 1) := by decide +kernel
theorem dX12_least_2 : decode cX12_least 2 = .ok (.invokevirtual 310, 3) := by decide +kernel
theorem dX12_least_5 : decode cX12_least 5 = .ok (.ifCond .ne 5, 3) := by decide +kernel
theorem dX12_least_8 : decode cX12_least 8 = .ok (.iconst (-1), 1) := by decide +kernel
theorem dX12_least_9 : decode cX12_least 9 = .ok (.ireturn, 1) := by decide +kernel
theorem dX12_least_10 : decode cX12_least 10 = .ok (.iconst 0, 1) := by decide +kernel
theorem dX12_least_11 : decode cX12_least 11 = .ok (.istore_n 2, 1) := by decide +kernel
theorem dX12_least_12 : decode cX12_least 12 = .ok (.iconst 1, 1) := by decide +kernel
theorem dX12_least_13 : decode cX12_least 13 = .ok (.istore_n 3, 1) := by decide +kernel
theorem dX12_least_14 : decode cX12_least 14 = .ok (.iload_n 3, 1) := by decide +kernel
theorem dX12_least_15 : decode cX12_least 15 = .ok (.aload_n 0, 1) := by decide +kernel
theorem dX12_least_16 : decode cX12_least 16 = .ok (.getfield 49, 3) := by decide +kernel
theorem dX12_least_19 : decode cX12_least 19 = .ok (.iload_n 1, 1) := by decide +kernel
theorem dX12_least_20 : decode cX12_least 20 = .ok (.iaload, 1) := by decide +kernel
theorem dX12_least_21 : decode cX12_least 21 = .ok (.if_icmp .ge 25, 3) := by decide +kernel
theorem dX12_least_24 : decode cX12_least 24 = .ok (.aload_n 0, 1) := by decide +kernel
theorem dX12_least_25 : decode cX12_least 25 = .ok (.iload_n 1, 1) := by decide +kernel
theorem dX12_least_26 : decode cX12_least 26 = .ok (.iload_n 3, 1) := by decide +kernel
theorem dX12_least_27 : decode cX12_least 27 = .ok (.iload_n 2, 1) := by decide +kernel
theorem dX12_least_28 : decode cX12_least 28 = .ok (.invokevirtual 372, 3) := by decide +kernel
theorem dX12_least_31 : decode cX12_least 31 = .ok (.ifCond .eq 7, 3) := by decide +kernel
theorem dX12_least_34 : decode cX12_least 34 = .ok (.iload_n 3, 1) := by decide +kernel
theorem dX12_least_35 : decode cX12_least 35 = .ok (.goto 4, 3) := by decide +kernel
theorem dX12_least_38 : decode cX12_least 38 = .ok (.iload_n 2, 1) := by decide +kernel
theorem dX12_least_39 : decode cX12_least 39 = .ok (.istore_n 2, 1) := by decide +kernel
theorem dX12_least_40 : decode cX12_least 40 = .ok (.iinc 3 1, 3) := by decide +kernel
theorem dX12_least_43 : decode cX12_least 43 = .ok (.goto (-29), 3) := by decide +kernel
theorem dX12_least_46 : decode cX12_least 46 = .ok (.iload_n 2, 1) := by decide +kernel
theorem dX12_least_47 : decode cX12_least 47 = .ok (.ireturn, 1) := by decide +kernel
theorem dX12_alike_0 : decode cX12_alike 0 = .ok (.aload_n 0, 1) := by decide +kernel
theorem dX12_alike_1 : decode cX12_alike 1 = .ok (.iload_n 1, 1) := by decide +kernel
theorem dX12_alike_2 : decode cX12_alike 2 = .ok (.invokevirtual 310, 3) := by decide +kernel
theorem dX12_alike_5 : decode cX12_alike 5 = .ok (.ifCond .eq 21, 3) := by decide +kernel
theorem dX12_alike_8 : decode cX12_alike 8 = .ok (.aload_n 0, 1) := by decide +kernel
theorem dX12_alike_9 : decode cX12_alike 9 = .ok (.iload_n 2, 1) := by decide +kernel
theorem dX12_alike_10 : decode cX12_alike 10 = .ok (.invokevirtual 310, 3) := by decide +kernel
theorem dX12_alike_13 : decode cX12_alike 13 = .ok (.ifCond .eq 13, 3) := by decide +kernel
theorem dX12_alike_16 : decode cX12_alike 16 = .ok (.aload_n 0, 1) := by decide +kernel
theorem dX12_alike_17 : decode cX12_alike 17 = .ok (.iload_n 1, 1) := by decide +kernel
theorem dX12_alike_18 : decode cX12_alike 18 = .ok (.iload_n 2, 1) := by decide +kernel
theorem dX12_alike_19 : decode cX12_alike 19 = .ok (.iload_n 3, 1) := by decide +kernel
theorem dX12_alike_20 : decode cX12_alike 20 = .ok (.invokevirtual 375, 3) := by decide +kernel
theorem dX12_alike_23 : decode cX12_alike 23 = .ok (.goto 4, 3) := by decide +kernel
theorem dX12_alike_26 : decode cX12_alike 26 = .ok (.iconst (-1), 1) := by decide +kernel
theorem dX12_alike_27 : decode cX12_alike 27 = .ok (.ireturn, 1) := by decide +kernel
theorem dX12_mirror_0 : decode cX12_mirror 0 = .ok (.aload_n 0, 1) := by decide +kernel
theorem dX12_mirror_1 : decode cX12_mirror 1 = .ok (.iload_n 1, 1) := by decide +kernel
theorem dX12_mirror_2 : decode cX12_mirror 2 = .ok (.invokevirtual 310, 3) := by decide +kernel
theorem dX12_mirror_5 : decode cX12_mirror 5 = .ok (.ifCond .ne 7, 3) := by decide +kernel
theorem dX12_mirror_8 : decode cX12_mirror 8 = .ok (.iconst (-1), 1) := by decide +kernel
theorem dX12_mirror_9 : decode cX12_mirror 9 = .ok (.goto 19, 3) := by decide +kernel
theorem dX12_mirror_12 : decode cX12_mirror 12 = .ok (.aload_n 0, 1) := by decide +kernel
theorem dX12_mirror_13 : decode cX12_mirror 13 = .ok (.iload_n 1, 1) := by decide +kernel
theorem dX12_mirror_14 : decode cX12_mirror 14 = .ok (.iload_n 1, 1) := by decide +kernel
theorem dX12_mirror_15 : decode cX12_mirror 15 = .ok (.iconst 1, 1) := by decide +kernel
theorem dX12_mirror_16 : decode cX12_mirror 16 = .ok (.invokevirtual 375, 3) := by decide +kernel
theorem dX12_mirror_19 : decode cX12_mirror 19 = .ok (.iconst (-1), 1) := by decide +kernel
theorem dX12_mirror_20 : decode cX12_mirror 20 = .ok (.if_icmp .ne 7, 3) := by decide +kernel
theorem dX12_mirror_23 : decode cX12_mirror 23 = .ok (.iconst 0, 1) := by decide +kernel
theorem dX12_mirror_24 : decode cX12_mirror 24 = .ok (.goto 4, 3) := by decide +kernel
theorem dX12_mirror_27 : decode cX12_mirror 27 = .ok (.iconst 1, 1) := by decide +kernel
theorem dX12_mirror_28 : decode cX12_mirror 28 = .ok (.ireturn, 1) := by decide +kernel
theorem dX12_areRowsAlike_0 : decode cX12_areRowsAlike 0 = .ok (.iconst 0, 1) := by decide +kernel
theorem dX12_areRowsAlike_1 : decode cX12_areRowsAlike 1 = .ok (.istore 5, 2) := by decide +kernel
theorem dX12_areRowsAlike_3 : decode cX12_areRowsAlike 3 = .ok (.iload 5, 2) := by decide +kernel
theorem dX12_areRowsAlike_5 : decode cX12_areRowsAlike 5 = .ok (.iload 4, 2) := by decide +kernel
theorem dX12_areRowsAlike_7 : decode cX12_areRowsAlike 7 = .ok (.if_icmp .ge 32, 3) := by decide +kernel
theorem dX12_areRowsAlike_10 : decode cX12_areRowsAlike 10 = .ok (.aload_n 0, 1) := by decide +kernel
theorem dX12_areRowsAlike_11 : decode cX12_areRowsAlike 11 = .ok (.iload_n 1, 1) := by decide +kernel
theorem dX12_areRowsAlike_12 : decode cX12_areRowsAlike 12 = .ok (.iload_n 2, 1) := by decide +kernel
theorem dX12_areRowsAlike_13 : decode cX12_areRowsAlike 13 = .ok (.iload 5, 2) := by decide +kernel
theorem dX12_areRowsAlike_15 : decode cX12_areRowsAlike 15 = .ok (.iconst 0, 1) := by decide +kernel
theorem dX12_areRowsAlike_16 : decode cX12_areRowsAlike 16 = .ok (.invokevirtual 364, 3) := by decide +kernel
theorem dX12_areRowsAlike_19 : decode cX12_areRowsAlike 19 = .ok (.aload_n 0, 1) := by decide +kernel
theorem dX12_areRowsAlike_20 : decode cX12_areRowsAlike 20 = .ok (.iload_n 1, 1) := by decide +kernel
theorem dX12_areRowsAlike_21 : decode cX12_areRowsAlike 21 = .ok (.iload_n 3, 1) := by decide +kernel
theorem dX12_areRowsAlike_22 : decode cX12_areRowsAlike 22 = .ok (.iload 5, 2) := by decide +kernel
theorem dX12_areRowsAlike_24 : decode cX12_areRowsAlike 24 = .ok (.iconst 0, 1) := by decide +kernel
theorem dX12_areRowsAlike_25 : decode cX12_areRowsAlike 25 = .ok (.invokevirtual 364, 3) := by decide +kernel
theorem dX12_areRowsAlike_28 : decode cX12_areRowsAlike 28 = .ok (.if_icmp .eq 5, 3) := by decide +kernel
theorem dX12_areRowsAlike_31 : decode cX12_areRowsAlike 31 = .ok (.iconst 0, 1) := by decide +kernel
theorem dX12_areRowsAlike_32 : decode cX12_areRowsAlike 32 = .ok (.ireturn, 1) := by decide +kernel
theorem dX12_areRowsAlike_33 : decode cX12_areRowsAlike 33 = .ok (.iinc 5 1, 3) := by decide +kernel
theorem dX12_areRowsAlike_36 : decode cX12_areRowsAlike 36 = .ok (.goto (-33), 3) := by decide +kernel
theorem dX12_areRowsAlike_39 : decode cX12_areRowsAlike 39 = .ok (.iconst 1, 1) := by decide +kernel
theorem dX12_areRowsAlike_40 : decode cX12_areRowsAlike 40 = .ok (.ireturn, 1) := by decide +kernel
theorem dX12_rows_0 : decode cX12_rows 0 = .ok (.aload_n 0, 1) := by decide +kernel
theorem dX12_rows_1 : decode cX12_rows 1 = .ok (.iload_n 1, 1) := by decide +kernel
theorem dX12_rows_2 : decode cX12_rows 2 = .ok (.invokevirtual 310, 3) := by decide +kernel
theorem dX12_rows_5 : decode cX12_rows 5 = .ok (.ifCond .eq 13, 3) := by decide +kernel
theorem dX12_rows_8 : decode cX12_rows 8 = .ok (.iload_n 2, 1) := by decide +kernel
theorem dX12_rows_9 : decode cX12_rows 9 = .ok (.iconst 1, 1) := by decide +kernel
theorem dX12_rows_10 : decode cX12_rows 10 = .ok (.bipush 8, 2) := by decide +kernel
theorem dX12_rows_12 : decode cX12_rows 12 = .ok (.invokestatic 208, 3) := by decide +kernel
theorem dX12_rows_15 : decode cX12_rows 15 = .ok (.ifCond .ne 5, 3) := by decide +kernel
theorem dX12_rows_18 : decode cX12_rows 18 = .ok (.iconst (-1), 1) := by decide +kernel
theorem dX12_rows_19 : decode cX12_rows 19 = .ok (.ireturn, 1) := by decide +kernel
theorem dX12_rows_20 : decode cX12_rows 20 = .ok (.iconst 0, 1) := by decide +kernel
theorem dX12_rows_21 : decode cX12_rows 21 = .ok (.istore_n 3, 1) := by decide +kernel
theorem dX12_rows_22 : decode cX12_rows 22 = .ok (.iconst 0, 1) := by decide +kernel
theorem dX12_rows_23 : decode cX12_rows 23 = .ok (.istore 4, 2) := by decide +kernel
theorem dX12_rows_25 : decode cX12_rows 25 = .ok (.iload 4, 2) := by decide +kernel
theorem dX12_rows_27 : decode cX12_rows 27 = .ok (.aload_n 0, 1) := by decide +kernel
theorem dX12_rows_28 : decode cX12_rows 28 = .ok (.getfield 49, 3) := by decide +kernel
theorem dX12_rows_31 : decode cX12_rows 31 = .ok (.iload_n 1, 1) := by decide +kernel
theorem dX12_rows_32 : decode cX12_rows 32 = .ok (.iaload, 1) := by decide +kernel
theorem dX12_rows_33 : decode cX12_rows 33 = .ok (.if_icmp .ge 66, 3) := by decide +kernel
theorem dX12_rows_36 : decode cX12_rows 36 = .ok (.iconst 1, 1) := by decide +kernel
theorem dX12_rows_37 : decode cX12_rows 37 = .ok (.istore 5, 2) := by decide +kernel
theorem dX12_rows_39 : decode cX12_rows 39 = .ok (.iconst 0, 1) := by decide +kernel
theorem dX12_rows_40 : decode cX12_rows 40 = .ok (.istore 6, 2) := by decide +kernel
theorem dX12_rows_42 : decode cX12_rows 42 = .ok (.iload 6, 2) := by decide +kernel
theorem dX12_rows_44 : decode cX12_rows 44 = .ok (.iload 4, 2) := by decide +kernel
theorem dX12_rows_46 : decode cX12_rows 46 = .ok (.if_icmp .ge 34, 3) := by decide +kernel
theorem dX12_rows_49 : decode cX12_rows 49 = .ok (.iload 5, 2) := by decide +kernel
theorem dX12_rows_51 : decode cX12_rows 51 = .ok (.ifCond .eq 20, 3) := by decide +kernel
theorem dX12_rows_54 : decode cX12_rows 54 = .ok (.aload_n 0, 1) := by decide +kernel
theorem dX12_rows_55 : decode cX12_rows 55 = .ok (.iload_n 1, 1) := by decide +kernel
theorem dX12_rows_56 : decode cX12_rows 56 = .ok (.iload 4, 2) := by decide +kernel
theorem dX12_rows_58 : decode cX12_rows 58 = .ok (.iload 6, 2) := by decide +kernel
theorem dX12_rows_60 : decode cX12_rows 60 = .ok (.iload_n 2, 1) := by decide +kernel
theorem dX12_rows_61 : decode cX12_rows 61 = .ok (.invokevirtual 379, 3) := by decide +kernel
theorem dX12_rows_64 : decode cX12_rows 64 = .ok (.ifCond .ne 7, 3) := by decide +kernel
theorem dX12_rows_67 : decode cX12_rows 67 = .ok (.iconst 1, 1) := by decide +kernel
theorem dX12_rows_68 : decode cX12_rows 68 = .ok (.goto 4, 3) := by decide +kernel
theorem dX12_rows_71 : decode cX12_rows 71 = .ok (.iconst 0, 1) := by decide +kernel
theorem dX12_rows_72 : decode cX12_rows 72 = .ok (.istore 5, 2) := by decide +kernel
theorem dX12_rows_74 : decode cX12_rows 74 = .ok (.iinc 6 1, 3) := by decide +kernel
theorem dX12_rows_77 : decode cX12_rows 77 = .ok (.goto (-35), 3) := by decide +kernel
theorem dX12_rows_80 : decode cX12_rows 80 = .ok (.iload_n 3, 1) := by decide +kernel
theorem dX12_rows_81 : decode cX12_rows 81 = .ok (.iload 5, 2) := by decide +kernel
theorem dX12_rows_83 : decode cX12_rows 83 = .ok (.ifCond .eq 7, 3) := by decide +kernel
theorem dX12_rows_86 : decode cX12_rows 86 = .ok (.iconst 1, 1) := by decide +kernel
theorem dX12_rows_87 : decode cX12_rows 87 = .ok (.goto 4, 3) := by decide +kernel
theorem dX12_rows_90 : decode cX12_rows 90 = .ok (.iconst 0, 1) := by decide +kernel
theorem dX12_rows_91 : decode cX12_rows 91 = .ok (.iadd, 1) := by decide +kernel
theorem dX12_rows_92 : decode cX12_rows 92 = .ok (.istore_n 3, 1) := by decide +kernel
theorem dX12_rows_93 : decode cX12_rows 93 = .ok (.iinc 4 1, 3) := by decide +kernel
theorem dX12_rows_96 : decode cX12_rows 96 = .ok (.goto (-71), 3) := by decide +kernel
theorem dX12_rows_99 : decode cX12_rows 99 = .ok (.iload_n 3, 1) := by decide +kernel
theorem dX12_rows_100 : decode cX12_rows 100 = .ok (.ireturn, 1) := by decide +kernel
theorem dX12_commonOf_0 : decode cX12_commonOf 0 = .ok (.iload_n 1, 1) := by decide +kernel
theorem dX12_commonOf_1 : decode cX12_commonOf 1 = .ok (.ifCond .ne 7, 3) := by decide +kernel
theorem dX12_commonOf_4 : decode cX12_commonOf 4 = .ok (.iload_n 0, 1) := by decide +kernel
theorem dX12_commonOf_5 : decode cX12_commonOf 5 = .ok (.goto 10, 3) := by decide +kernel
theorem dX12_commonOf_8 : decode cX12_commonOf 8 = .ok (.iload_n 1, 1) := by decide +kernel
theorem dX12_commonOf_9 : decode cX12_commonOf 9 = .ok (.iload_n 0, 1) := by decide +kernel
theorem dX12_commonOf_10 : decode cX12_commonOf 10 = .ok (.iload_n 1, 1) := by decide +kernel
theorem dX12_commonOf_11 : decode cX12_commonOf 11 = .ok (.irem, 1) := by decide +kernel
theorem dX12_commonOf_12 : decode cX12_commonOf 12 = .ok (.invokestatic 383, 3) := by decide +kernel
theorem dX12_commonOf_15 : decode cX12_commonOf 15 = .ok (.ireturn, 1) := by decide +kernel
theorem dX12_power_0 : decode cX12_power 0 = .ok (.lconst 1, 1) := by decide +kernel
theorem dX12_power_1 : decode cX12_power 1 = .ok (.lstore_n 2, 1) := by decide +kernel
theorem dX12_power_2 : decode cX12_power 2 = .ok (.iconst 0, 1) := by decide +kernel
theorem dX12_power_3 : decode cX12_power 3 = .ok (.istore 4, 2) := by decide +kernel
theorem dX12_power_5 : decode cX12_power 5 = .ok (.iload 4, 2) := by decide +kernel
theorem dX12_power_7 : decode cX12_power 7 = .ok (.iload_n 1, 1) := by decide +kernel
theorem dX12_power_8 : decode cX12_power 8 = .ok (.if_icmp .ge 14, 3) := by decide +kernel
theorem dX12_power_11 : decode cX12_power 11 = .ok (.lload_n 2, 1) := by decide +kernel
theorem dX12_power_12 : decode cX12_power 12 = .ok (.iload_n 0, 1) := by decide +kernel
theorem dX12_power_13 : decode cX12_power 13 = .ok (.i2l, 1) := by decide +kernel
theorem dX12_power_14 : decode cX12_power 14 = .ok (.lmul, 1) := by decide +kernel
theorem dX12_power_15 : decode cX12_power 15 = .ok (.lstore_n 2, 1) := by decide +kernel
theorem dX12_power_16 : decode cX12_power 16 = .ok (.iinc 4 1, 3) := by decide +kernel
theorem dX12_power_19 : decode cX12_power 19 = .ok (.goto (-14), 3) := by decide +kernel
theorem dX12_power_22 : decode cX12_power 22 = .ok (.lload_n 2, 1) := by decide +kernel
theorem dX12_power_23 : decode cX12_power 23 = .ok (.lreturn, 1) := by decide +kernel
theorem dX12_kinds_0 : decode cX12_kinds 0 = .ok (.iload_n 1, 1) := by decide +kernel
theorem dX12_kinds_1 : decode cX12_kinds 1 = .ok (.iconst 1, 1) := by decide +kernel
theorem dX12_kinds_2 : decode cX12_kinds 2 = .ok (.bipush 12, 2) := by decide +kernel
theorem dX12_kinds_4 : decode cX12_kinds 4 = .ok (.invokestatic 208, 3) := by decide +kernel
theorem dX12_kinds_7 : decode cX12_kinds 7 = .ok (.ifCond .eq 13, 3) := by decide +kernel
theorem dX12_kinds_10 : decode cX12_kinds 10 = .ok (.iload_n 2, 1) := by decide +kernel
theorem dX12_kinds_11 : decode cX12_kinds 11 = .ok (.iconst 1, 1) := by decide +kernel
theorem dX12_kinds_12 : decode cX12_kinds 12 = .ok (.bipush 6, 2) := by decide +kernel
theorem dX12_kinds_14 : decode cX12_kinds 14 = .ok (.invokestatic 208, 3) := by decide +kernel
theorem dX12_kinds_17 : decode cX12_kinds 17 = .ok (.ifCond .ne 5, 3) := by decide +kernel
theorem dX12_kinds_20 : decode cX12_kinds 20 = .ok (.iconst (-1), 1) := by decide +kernel
theorem dX12_kinds_21 : decode cX12_kinds 21 = .ok (.ireturn, 1) := by decide +kernel
theorem dX12_kinds_22 : decode cX12_kinds 22 = .ok (.lconst 0, 1) := by decide +kernel
theorem dX12_kinds_23 : decode cX12_kinds 23 = .ok (.lstore 4, 2) := by decide +kernel
theorem dX12_kinds_25 : decode cX12_kinds 25 = .ok (.iconst 0, 1) := by decide +kernel
theorem dX12_kinds_26 : decode cX12_kinds 26 = .ok (.istore 6, 2) := by decide +kernel
theorem dX12_kinds_28 : decode cX12_kinds 28 = .ok (.iload 6, 2) := by decide +kernel
theorem dX12_kinds_30 : decode cX12_kinds 30 = .ok (.iload_n 1, 1) := by decide +kernel
theorem dX12_kinds_31 : decode cX12_kinds 31 = .ok (.if_icmp .ge 78, 3) := by decide +kernel
theorem dX12_kinds_34 : decode cX12_kinds 34 = .ok (.lload 4, 2) := by decide +kernel
theorem dX12_kinds_36 : decode cX12_kinds 36 = .ok (.iload_n 2, 1) := by decide +kernel
theorem dX12_kinds_37 : decode cX12_kinds 37 = .ok (.iload_n 1, 1) := by decide +kernel
theorem dX12_kinds_38 : decode cX12_kinds 38 = .ok (.iload 6, 2) := by decide +kernel
theorem dX12_kinds_40 : decode cX12_kinds 40 = .ok (.invokestatic 383, 3) := by decide +kernel
theorem dX12_kinds_43 : decode cX12_kinds 43 = .ok (.invokestatic 386, 3) := by decide +kernel
theorem dX12_kinds_46 : decode cX12_kinds 46 = .ok (.ladd, 1) := by decide +kernel
theorem dX12_kinds_47 : decode cX12_kinds 47 = .ok (.lstore 4, 2) := by decide +kernel
theorem dX12_kinds_49 : decode cX12_kinds 49 = .ok (.iload_n 3, 1) := by decide +kernel
theorem dX12_kinds_50 : decode cX12_kinds 50 = .ok (.ifCond .eq 53, 3) := by decide +kernel
theorem dX12_kinds_53 : decode cX12_kinds 53 = .ok (.lload 4, 2) := by decide +kernel
theorem dX12_kinds_55 : decode cX12_kinds 55 = .ok (.iload_n 1, 1) := by decide +kernel
theorem dX12_kinds_56 : decode cX12_kinds 56 = .ok (.iconst 2, 1) := by decide +kernel
theorem dX12_kinds_57 : decode cX12_kinds 57 = .ok (.irem, 1) := by decide +kernel
theorem dX12_kinds_58 : decode cX12_kinds 58 = .ok (.iconst 1, 1) := by decide +kernel
theorem dX12_kinds_59 : decode cX12_kinds 59 = .ok (.if_icmp .ne 15, 3) := by decide +kernel
theorem dX12_kinds_62 : decode cX12_kinds 62 = .ok (.iload_n 2, 1) := by decide +kernel
theorem dX12_kinds_63 : decode cX12_kinds 63 = .ok (.iload_n 1, 1) := by decide +kernel
theorem dX12_kinds_64 : decode cX12_kinds 64 = .ok (.iconst 1, 1) := by decide +kernel
theorem dX12_kinds_65 : decode cX12_kinds 65 = .ok (.iadd, 1) := by decide +kernel
theorem dX12_kinds_66 : decode cX12_kinds 66 = .ok (.iconst 2, 1) := by decide +kernel
theorem dX12_kinds_67 : decode cX12_kinds 67 = .ok (.idiv, 1) := by decide +kernel
theorem dX12_kinds_68 : decode cX12_kinds 68 = .ok (.invokestatic 386, 3) := by decide +kernel
theorem dX12_kinds_71 : decode cX12_kinds 71 = .ok (.goto 29, 3) := by decide +kernel
theorem dX12_kinds_74 : decode cX12_kinds 74 = .ok (.iload 6, 2) := by decide +kernel
theorem dX12_kinds_76 : decode cX12_kinds 76 = .ok (.iconst 2, 1) := by decide +kernel
theorem dX12_kinds_77 : decode cX12_kinds 77 = .ok (.irem, 1) := by decide +kernel
theorem dX12_kinds_78 : decode cX12_kinds 78 = .ok (.ifCond .ne 13, 3) := by decide +kernel
theorem dX12_kinds_81 : decode cX12_kinds 81 = .ok (.iload_n 2, 1) := by decide +kernel
theorem dX12_kinds_82 : decode cX12_kinds 82 = .ok (.iload_n 1, 1) := by decide +kernel
theorem dX12_kinds_83 : decode cX12_kinds 83 = .ok (.iconst 2, 1) := by decide +kernel
theorem dX12_kinds_84 : decode cX12_kinds 84 = .ok (.idiv, 1) := by decide +kernel
theorem dX12_kinds_85 : decode cX12_kinds 85 = .ok (.invokestatic 386, 3) := by decide +kernel
theorem dX12_kinds_88 : decode cX12_kinds 88 = .ok (.goto 12, 3) := by decide +kernel
theorem dX12_kinds_91 : decode cX12_kinds 91 = .ok (.iload_n 2, 1) := by decide +kernel
theorem dX12_kinds_92 : decode cX12_kinds 92 = .ok (.iload_n 1, 1) := by decide +kernel
theorem dX12_kinds_93 : decode cX12_kinds 93 = .ok (.iconst 2, 1) := by decide +kernel
theorem dX12_kinds_94 : decode cX12_kinds 94 = .ok (.idiv, 1) := by decide +kernel
theorem dX12_kinds_95 : decode cX12_kinds 95 = .ok (.iconst 1, 1) := by decide +kernel
theorem dX12_kinds_96 : decode cX12_kinds 96 = .ok (.iadd, 1) := by decide +kernel
theorem dX12_kinds_97 : decode cX12_kinds 97 = .ok (.invokestatic 386, 3) := by decide +kernel
theorem dX12_kinds_100 : decode cX12_kinds 100 = .ok (.ladd, 1) := by decide +kernel
theorem dX12_kinds_101 : decode cX12_kinds 101 = .ok (.lstore 4, 2) := by decide +kernel
theorem dX12_kinds_103 : decode cX12_kinds 103 = .ok (.iinc 6 1, 3) := by decide +kernel
theorem dX12_kinds_106 : decode cX12_kinds 106 = .ok (.goto (-78), 3) := by decide +kernel
theorem dX12_kinds_109 : decode cX12_kinds 109 = .ok (.lload 4, 2) := by decide +kernel
theorem dX12_kinds_111 : decode cX12_kinds 111 = .ok (.iload_n 3, 1) := by decide +kernel
theorem dX12_kinds_112 : decode cX12_kinds 112 = .ok (.ifCond .eq 9, 3) := by decide +kernel
theorem dX12_kinds_115 : decode cX12_kinds 115 = .ok (.iconst 2, 1) := by decide +kernel
theorem dX12_kinds_116 : decode cX12_kinds 116 = .ok (.iload_n 1, 1) := by decide +kernel
theorem dX12_kinds_117 : decode cX12_kinds 117 = .ok (.imul, 1) := by decide +kernel
theorem dX12_kinds_118 : decode cX12_kinds 118 = .ok (.goto 4, 3) := by decide +kernel
theorem dX12_kinds_121 : decode cX12_kinds 121 = .ok (.iload_n 1, 1) := by decide +kernel
theorem dX12_kinds_122 : decode cX12_kinds 122 = .ok (.i2l, 1) := by decide +kernel
theorem dX12_kinds_123 : decode cX12_kinds 123 = .ok (.ldiv, 1) := by decide +kernel
theorem dX12_kinds_124 : decode cX12_kinds 124 = .ok (.l2i, 1) := by decide +kernel
theorem dX12_kinds_125 : decode cX12_kinds 125 = .ok (.ireturn, 1) := by decide +kernel
theorem dX12_noted_0 : decode cX12_noted 0 = .ok (.iload_n 1, 1) := by decide +kernel
theorem dX12_noted_1 : decode cX12_noted 1 = .ok (.iconst 0, 1) := by decide +kernel
theorem dX12_noted_2 : decode cX12_noted 2 = .ok (.bipush 99, 2) := by decide +kernel
theorem dX12_noted_4 : decode cX12_noted 4 = .ok (.invokestatic 208, 3) := by decide +kernel
theorem dX12_noted_7 : decode cX12_noted 7 = .ok (.ifCond .eq 22, 3) := by decide +kernel
theorem dX12_noted_10 : decode cX12_noted 10 = .ok (.iload_n 2, 1) := by decide +kernel
theorem dX12_noted_11 : decode cX12_noted 11 = .ok (.iconst 0, 1) := by decide +kernel
theorem dX12_noted_12 : decode cX12_noted 12 = .ok (.bipush 26, 2) := by decide +kernel
theorem dX12_noted_14 : decode cX12_noted 14 = .ok (.invokestatic 208, 3) := by decide +kernel
theorem dX12_noted_17 : decode cX12_noted 17 = .ok (.ifCond .eq 12, 3) := by decide +kernel
theorem dX12_noted_20 : decode cX12_noted 20 = .ok (.aload_n 0, 1) := by decide +kernel
theorem dX12_noted_21 : decode cX12_noted 21 = .ok (.getfield 269, 3) := by decide +kernel
theorem dX12_noted_24 : decode cX12_noted 24 = .ok (.bipush 10, 2) := by decide +kernel
theorem dX12_noted_26 : decode cX12_noted 26 = .ok (.if_icmp .ne 5, 3) := by decide +kernel
theorem dX12_noted_29 : decode cX12_noted 29 = .ok (.iconst (-1), 1) := by decide +kernel
theorem dX12_noted_30 : decode cX12_noted 30 = .ok (.ireturn, 1) := by decide +kernel
theorem dX12_noted_31 : decode cX12_noted 31 = .ok (.aload_n 0, 1) := by decide +kernel
theorem dX12_noted_32 : decode cX12_noted 32 = .ok (.getfield 77, 3) := by decide +kernel
theorem dX12_noted_35 : decode cX12_noted 35 = .ok (.aload_n 0, 1) := by decide +kernel
theorem dX12_noted_36 : decode cX12_noted 36 = .ok (.getfield 269, 3) := by decide +kernel
theorem dX12_noted_39 : decode cX12_noted 39 = .ok (.iload_n 1, 1) := by decide +kernel
theorem dX12_noted_40 : decode cX12_noted 40 = .ok (.iastore, 1) := by decide +kernel
theorem dX12_noted_41 : decode cX12_noted 41 = .ok (.aload_n 0, 1) := by decide +kernel
theorem dX12_noted_42 : decode cX12_noted 42 = .ok (.getfield 80, 3) := by decide +kernel
theorem dX12_noted_45 : decode cX12_noted 45 = .ok (.aload_n 0, 1) := by decide +kernel
theorem dX12_noted_46 : decode cX12_noted 46 = .ok (.getfield 269, 3) := by decide +kernel
theorem dX12_noted_49 : decode cX12_noted 49 = .ok (.iload_n 2, 1) := by decide +kernel
theorem dX12_noted_50 : decode cX12_noted 50 = .ok (.iastore, 1) := by decide +kernel
theorem dX12_noted_51 : decode cX12_noted 51 = .ok (.aload_n 0, 1) := by decide +kernel
theorem dX12_noted_52 : decode cX12_noted 52 = .ok (.getfield 83, 3) := by decide +kernel
theorem dX12_noted_55 : decode cX12_noted 55 = .ok (.aload_n 0, 1) := by decide +kernel
theorem dX12_noted_56 : decode cX12_noted 56 = .ok (.getfield 269, 3) := by decide +kernel
theorem dX12_noted_59 : decode cX12_noted 59 = .ok (.iload_n 3, 1) := by decide +kernel
theorem dX12_noted_60 : decode cX12_noted 60 = .ok (.bastore, 1) := by decide +kernel
theorem dX12_noted_61 : decode cX12_noted 61 = .ok (.aload_n 0, 1) := by decide +kernel
theorem dX12_noted_62 : decode cX12_noted 62 = .ok (.dup, 1) := by decide +kernel
theorem dX12_noted_63 : decode cX12_noted 63 = .ok (.getfield 269, 3) := by decide +kernel
theorem dX12_noted_66 : decode cX12_noted 66 = .ok (.iconst 1, 1) := by decide +kernel
theorem dX12_noted_67 : decode cX12_noted 67 = .ok (.iadd, 1) := by decide +kernel
theorem dX12_noted_68 : decode cX12_noted 68 = .ok (.putfield 269, 3) := by decide +kernel
theorem dX12_noted_71 : decode cX12_noted 71 = .ok (.aload_n 0, 1) := by decide +kernel
theorem dX12_noted_72 : decode cX12_noted 72 = .ok (.getfield 269, 3) := by decide +kernel
theorem dX12_noted_75 : decode cX12_noted 75 = .ok (.ireturn, 1) := by decide +kernel
theorem dX12_shownBy_0 : decode cX12_shownBy 0 = .ok (.aload_n 0, 1) := by decide +kernel
theorem dX12_shownBy_1 : decode cX12_shownBy 1 = .ok (.getfield 46, 3) := by decide +kernel
theorem dX12_shownBy_4 : decode cX12_shownBy 4 = .ok (.bipush 16, 2) := by decide +kernel
theorem dX12_shownBy_6 : decode cX12_shownBy 6 = .ok (.iload_n 1, 1) := by decide +kernel
theorem dX12_shownBy_7 : decode cX12_shownBy 7 = .ok (.imul, 1) := by decide +kernel
theorem dX12_shownBy_8 : decode cX12_shownBy 8 = .ok (.iload_n 3, 1) := by decide +kernel
theorem dX12_shownBy_9 : decode cX12_shownBy 9 = .ok (.iload_n 2, 1) := by decide +kernel
theorem dX12_shownBy_10 : decode cX12_shownBy 10 = .ok (.iload 4, 2) := by decide +kernel
theorem dX12_shownBy_12 : decode cX12_shownBy 12 = .ok (.imul, 1) := by decide +kernel
theorem dX12_shownBy_13 : decode cX12_shownBy 13 = .ok (.iadd, 1) := by decide +kernel
theorem dX12_shownBy_14 : decode cX12_shownBy 14 = .ok (.aload_n 0, 1) := by decide +kernel
theorem dX12_shownBy_15 : decode cX12_shownBy 15 = .ok (.getfield 49, 3) := by decide +kernel
theorem dX12_shownBy_18 : decode cX12_shownBy 18 = .ok (.iload_n 1, 1) := by decide +kernel
theorem dX12_shownBy_19 : decode cX12_shownBy 19 = .ok (.iaload, 1) := by decide +kernel
theorem dX12_shownBy_20 : decode cX12_shownBy 20 = .ok (.irem, 1) := by decide +kernel
theorem dX12_shownBy_21 : decode cX12_shownBy 21 = .ok (.iadd, 1) := by decide +kernel
theorem dX12_shownBy_22 : decode cX12_shownBy 22 = .ok (.iaload, 1) := by decide +kernel
theorem dX12_shownBy_23 : decode cX12_shownBy 23 = .ok (.ireturn, 1) := by decide +kernel
theorem dX12_isFit_0 : decode cX12_isFit 0 = .ok (.iconst 0, 1) := by decide +kernel
theorem dX12_isFit_1 : decode cX12_isFit 1 = .ok (.istore 4, 2) := by decide +kernel
theorem dX12_isFit_3 : decode cX12_isFit 3 = .ok (.iload 4, 2) := by decide +kernel
theorem dX12_isFit_5 : decode cX12_isFit 5 = .ok (.aload_n 0, 1) := by decide +kernel
theorem dX12_isFit_6 : decode cX12_isFit 6 = .ok (.getfield 269, 3) := by decide +kernel
theorem dX12_isFit_9 : decode cX12_isFit 9 = .ok (.if_icmp .ge 50, 3) := by decide +kernel
theorem dX12_isFit_12 : decode cX12_isFit 12 = .ok (.aload_n 0, 1) := by decide +kernel
theorem dX12_isFit_13 : decode cX12_isFit 13 = .ok (.iload_n 1, 1) := by decide +kernel
theorem dX12_isFit_14 : decode cX12_isFit 14 = .ok (.iload_n 2, 1) := by decide +kernel
theorem dX12_isFit_15 : decode cX12_isFit 15 = .ok (.iload_n 3, 1) := by decide +kernel
theorem dX12_isFit_16 : decode cX12_isFit 16 = .ok (.aload_n 0, 1) := by decide +kernel
theorem dX12_isFit_17 : decode cX12_isFit 17 = .ok (.getfield 77, 3) := by decide +kernel
theorem dX12_isFit_20 : decode cX12_isFit 20 = .ok (.iload 4, 2) := by decide +kernel
theorem dX12_isFit_22 : decode cX12_isFit 22 = .ok (.iaload, 1) := by decide +kernel
theorem dX12_isFit_23 : decode cX12_isFit 23 = .ok (.invokevirtual 390, 3) := by decide +kernel
theorem dX12_isFit_26 : decode cX12_isFit 26 = .ok (.aload_n 0, 1) := by decide +kernel
theorem dX12_isFit_27 : decode cX12_isFit 27 = .ok (.getfield 80, 3) := by decide +kernel
theorem dX12_isFit_30 : decode cX12_isFit 30 = .ok (.iload 4, 2) := by decide +kernel
theorem dX12_isFit_32 : decode cX12_isFit 32 = .ok (.iaload, 1) := by decide +kernel
theorem dX12_isFit_33 : decode cX12_isFit 33 = .ok (.if_icmp .ne 7, 3) := by decide +kernel
theorem dX12_isFit_36 : decode cX12_isFit 36 = .ok (.iconst 1, 1) := by decide +kernel
theorem dX12_isFit_37 : decode cX12_isFit 37 = .ok (.goto 4, 3) := by decide +kernel
theorem dX12_isFit_40 : decode cX12_isFit 40 = .ok (.iconst 0, 1) := by decide +kernel
theorem dX12_isFit_41 : decode cX12_isFit 41 = .ok (.aload_n 0, 1) := by decide +kernel
theorem dX12_isFit_42 : decode cX12_isFit 42 = .ok (.getfield 83, 3) := by decide +kernel
theorem dX12_isFit_45 : decode cX12_isFit 45 = .ok (.iload 4, 2) := by decide +kernel
theorem dX12_isFit_47 : decode cX12_isFit 47 = .ok (.baload, 1) := by decide +kernel
theorem dX12_isFit_48 : decode cX12_isFit 48 = .ok (.if_icmp .eq 5, 3) := by decide +kernel
theorem dX12_isFit_51 : decode cX12_isFit 51 = .ok (.iconst 0, 1) := by decide +kernel
theorem dX12_isFit_52 : decode cX12_isFit 52 = .ok (.ireturn, 1) := by decide +kernel
theorem dX12_isFit_53 : decode cX12_isFit 53 = .ok (.iinc 4 1, 3) := by decide +kernel
theorem dX12_isFit_56 : decode cX12_isFit 56 = .ok (.goto (-53), 3) := by decide +kernel
theorem dX12_isFit_59 : decode cX12_isFit 59 = .ok (.iconst 1, 1) := by decide +kernel
theorem dX12_isFit_60 : decode cX12_isFit 60 = .ok (.ireturn, 1) := by decide +kernel
theorem dX12_fits_0 : decode cX12_fits 0 = .ok (.iload_n 1, 1) := by decide +kernel
theorem dX12_fits_1 : decode cX12_fits 1 = .ok (.iconst (-1), 1) := by decide +kernel
theorem dX12_fits_2 : decode cX12_fits 2 = .ok (.if_icmp .ge 5, 3) := by decide +kernel
theorem dX12_fits_5 : decode cX12_fits 5 = .ok (.iconst (-1), 1) := by decide +kernel
theorem dX12_fits_6 : decode cX12_fits 6 = .ok (.ireturn, 1) := by decide +kernel
theorem dX12_fits_7 : decode cX12_fits 7 = .ok (.iconst 0, 1) := by decide +kernel
theorem dX12_fits_8 : decode cX12_fits 8 = .ok (.istore_n 2, 1) := by decide +kernel
theorem dX12_fits_9 : decode cX12_fits 9 = .ok (.iconst 0, 1) := by decide +kernel
theorem dX12_fits_10 : decode cX12_fits 10 = .ok (.istore_n 3, 1) := by decide +kernel
theorem dX12_fits_11 : decode cX12_fits 11 = .ok (.iload_n 3, 1) := by decide +kernel
theorem dX12_fits_12 : decode cX12_fits 12 = .ok (.sipush 1000, 3) := by decide +kernel
theorem dX12_fits_15 : decode cX12_fits 15 = .ok (.aload_n 0, 1) := by decide +kernel
theorem dX12_fits_16 : decode cX12_fits 16 = .ok (.getfield 251, 3) := by decide +kernel
theorem dX12_fits_19 : decode cX12_fits 19 = .ok (.imul, 1) := by decide +kernel
theorem dX12_fits_20 : decode cX12_fits 20 = .ok (.if_icmp .ge 59, 3) := by decide +kernel
theorem dX12_fits_23 : decode cX12_fits 23 = .ok (.iload_n 3, 1) := by decide +kernel
theorem dX12_fits_24 : decode cX12_fits 24 = .ok (.bipush 100, 2) := by decide +kernel
theorem dX12_fits_26 : decode cX12_fits 26 = .ok (.irem, 1) := by decide +kernel
theorem dX12_fits_27 : decode cX12_fits 27 = .ok (.aload_n 0, 1) := by decide +kernel
theorem dX12_fits_28 : decode cX12_fits 28 = .ok (.getfield 49, 3) := by decide +kernel
theorem dX12_fits_31 : decode cX12_fits 31 = .ok (.iload_n 3, 1) := by decide +kernel
theorem dX12_fits_32 : decode cX12_fits 32 = .ok (.sipush 1000, 3) := by decide +kernel
theorem dX12_fits_35 : decode cX12_fits 35 = .ok (.idiv, 1) := by decide +kernel
theorem dX12_fits_36 : decode cX12_fits 36 = .ok (.iaload, 1) := by decide +kernel
theorem dX12_fits_37 : decode cX12_fits 37 = .ok (.if_icmp .ge 36, 3) := by decide +kernel
theorem dX12_fits_40 : decode cX12_fits 40 = .ok (.aload_n 0, 1) := by decide +kernel
theorem dX12_fits_41 : decode cX12_fits 41 = .ok (.iload_n 3, 1) := by decide +kernel
theorem dX12_fits_42 : decode cX12_fits 42 = .ok (.sipush 1000, 3) := by decide +kernel
theorem dX12_fits_45 : decode cX12_fits 45 = .ok (.idiv, 1) := by decide +kernel
theorem dX12_fits_46 : decode cX12_fits 46 = .ok (.iload_n 3, 1) := by decide +kernel
theorem dX12_fits_47 : decode cX12_fits 47 = .ok (.bipush 100, 2) := by decide +kernel
theorem dX12_fits_49 : decode cX12_fits 49 = .ok (.idiv, 1) := by decide +kernel
theorem dX12_fits_50 : decode cX12_fits 50 = .ok (.bipush 10, 2) := by decide +kernel
theorem dX12_fits_52 : decode cX12_fits 52 = .ok (.irem, 1) := by decide +kernel
theorem dX12_fits_53 : decode cX12_fits 53 = .ok (.iload_n 3, 1) := by decide +kernel
theorem dX12_fits_54 : decode cX12_fits 54 = .ok (.bipush 100, 2) := by decide +kernel
theorem dX12_fits_56 : decode cX12_fits 56 = .ok (.irem, 1) := by decide +kernel
theorem dX12_fits_57 : decode cX12_fits 57 = .ok (.invokevirtual 394, 3) := by decide +kernel
theorem dX12_fits_60 : decode cX12_fits 60 = .ok (.ifCond .eq 13, 3) := by decide +kernel
theorem dX12_fits_63 : decode cX12_fits 63 = .ok (.iload_n 2, 1) := by decide +kernel
theorem dX12_fits_64 : decode cX12_fits 64 = .ok (.iload_n 1, 1) := by decide +kernel
theorem dX12_fits_65 : decode cX12_fits 65 = .ok (.if_icmp .ne 5, 3) := by decide +kernel
theorem dX12_fits_68 : decode cX12_fits 68 = .ok (.iload_n 3, 1) := by decide +kernel
theorem dX12_fits_69 : decode cX12_fits 69 = .ok (.ireturn, 1) := by decide +kernel
theorem dX12_fits_70 : decode cX12_fits 70 = .ok (.iinc 2 1, 3) := by decide +kernel
theorem dX12_fits_73 : decode cX12_fits 73 = .ok (.iinc 3 1, 3) := by decide +kernel
theorem dX12_fits_76 : decode cX12_fits 76 = .ok (.goto (-65), 3) := by decide +kernel
theorem dX12_fits_79 : decode cX12_fits 79 = .ok (.iload_n 1, 1) := by decide +kernel
theorem dX12_fits_80 : decode cX12_fits 80 = .ok (.iconst (-1), 1) := by decide +kernel
theorem dX12_fits_81 : decode cX12_fits 81 = .ok (.if_icmp .ne 7, 3) := by decide +kernel
theorem dX12_fits_84 : decode cX12_fits 84 = .ok (.iload_n 2, 1) := by decide +kernel
theorem dX12_fits_85 : decode cX12_fits 85 = .ok (.goto 4, 3) := by decide +kernel
theorem dX12_fits_88 : decode cX12_fits 88 = .ok (.iconst (-1), 1) := by decide +kernel
theorem dX12_fits_89 : decode cX12_fits 89 = .ok (.ireturn, 1) := by decide +kernel
theorem dX12_ask_0 : decode cX12_ask 0 = .ok (.aload_n 0, 1) := by decide +kernel
theorem dX12_ask_1 : decode cX12_ask 1 = .ok (.iconst 0, 1) := by decide +kernel
theorem dX12_ask_2 : decode cX12_ask 2 = .ok (.invokevirtual 397, 3) := by decide +kernel
theorem dX12_ask_5 : decode cX12_ask 5 = .ok (.iconst (-1), 1) := by decide +kernel
theorem dX12_ask_6 : decode cX12_ask 6 = .ok (.if_icmp .ne 5, 3) := by decide +kernel
theorem dX12_ask_9 : decode cX12_ask 9 = .ok (.iconst (-1), 1) := by decide +kernel
theorem dX12_ask_10 : decode cX12_ask 10 = .ok (.ireturn, 1) := by decide +kernel
theorem dX12_ask_11 : decode cX12_ask 11 = .ok (.iconst 0, 1) := by decide +kernel
theorem dX12_ask_12 : decode cX12_ask 12 = .ok (.istore_n 1, 1) := by decide +kernel
theorem dX12_ask_13 : decode cX12_ask 13 = .ok (.iload_n 1, 1) := by decide +kernel
theorem dX12_ask_14 : decode cX12_ask 14 = .ok (.sipush 1647, 3) := by decide +kernel
theorem dX12_ask_17 : decode cX12_ask 17 = .ok (.if_icmp .ge 16, 3) := by decide +kernel
theorem dX12_ask_20 : decode cX12_ask 20 = .ok (.aload_n 0, 1) := by decide +kernel
theorem dX12_ask_21 : decode cX12_ask 21 = .ok (.getfield 87, 3) := by decide +kernel
theorem dX12_ask_24 : decode cX12_ask 24 = .ok (.iload_n 1, 1) := by decide +kernel
theorem dX12_ask_25 : decode cX12_ask 25 = .ok (.iconst 0, 1) := by decide +kernel
theorem dX12_ask_26 : decode cX12_ask 26 = .ok (.iastore, 1) := by decide +kernel
theorem dX12_ask_27 : decode cX12_ask 27 = .ok (.iinc 1 1, 3) := by decide +kernel
theorem dX12_ask_30 : decode cX12_ask 30 = .ok (.goto (-17), 3) := by decide +kernel
theorem dX12_ask_33 : decode cX12_ask 33 = .ok (.iconst 0, 1) := by decide +kernel
theorem dX12_ask_34 : decode cX12_ask 34 = .ok (.istore_n 1, 1) := by decide +kernel
theorem dX12_ask_35 : decode cX12_ask 35 = .ok (.iload_n 1, 1) := by decide +kernel
theorem dX12_ask_36 : decode cX12_ask 36 = .ok (.sipush 1000, 3) := by decide +kernel
theorem dX12_ask_39 : decode cX12_ask 39 = .ok (.aload_n 0, 1) := by decide +kernel
theorem dX12_ask_40 : decode cX12_ask 40 = .ok (.getfield 251, 3) := by decide +kernel
theorem dX12_ask_43 : decode cX12_ask 43 = .ok (.imul, 1) := by decide +kernel
theorem dX12_ask_44 : decode cX12_ask 44 = .ok (.if_icmp .ge 98, 3) := by decide +kernel
theorem dX12_ask_47 : decode cX12_ask 47 = .ok (.iload_n 1, 1) := by decide +kernel
theorem dX12_ask_48 : decode cX12_ask 48 = .ok (.bipush 100, 2) := by decide +kernel
theorem dX12_ask_50 : decode cX12_ask 50 = .ok (.irem, 1) := by decide +kernel
theorem dX12_ask_51 : decode cX12_ask 51 = .ok (.aload_n 0, 1) := by decide +kernel
theorem dX12_ask_52 : decode cX12_ask 52 = .ok (.getfield 49, 3) := by decide +kernel
theorem dX12_ask_55 : decode cX12_ask 55 = .ok (.iload_n 1, 1) := by decide +kernel
theorem dX12_ask_56 : decode cX12_ask 56 = .ok (.sipush 1000, 3) := by decide +kernel
theorem dX12_ask_59 : decode cX12_ask 59 = .ok (.idiv, 1) := by decide +kernel
theorem dX12_ask_60 : decode cX12_ask 60 = .ok (.iaload, 1) := by decide +kernel
theorem dX12_ask_61 : decode cX12_ask 61 = .ok (.if_icmp .ge 75, 3) := by decide +kernel
theorem dX12_ask_64 : decode cX12_ask 64 = .ok (.aload_n 0, 1) := by decide +kernel
theorem dX12_ask_65 : decode cX12_ask 65 = .ok (.iload_n 1, 1) := by decide +kernel
theorem dX12_ask_66 : decode cX12_ask 66 = .ok (.sipush 1000, 3) := by decide +kernel
theorem dX12_ask_69 : decode cX12_ask 69 = .ok (.idiv, 1) := by decide +kernel
theorem dX12_ask_70 : decode cX12_ask 70 = .ok (.iload_n 1, 1) := by decide +kernel
theorem dX12_ask_71 : decode cX12_ask 71 = .ok (.bipush 100, 2) := by decide +kernel
theorem dX12_ask_73 : decode cX12_ask 73 = .ok (.idiv, 1) := by decide +kernel
theorem dX12_ask_74 : decode cX12_ask 74 = .ok (.bipush 10, 2) := by decide +kernel
theorem dX12_ask_76 : decode cX12_ask 76 = .ok (.irem, 1) := by decide +kernel
theorem dX12_ask_77 : decode cX12_ask 77 = .ok (.iload_n 1, 1) := by decide +kernel
theorem dX12_ask_78 : decode cX12_ask 78 = .ok (.bipush 100, 2) := by decide +kernel
theorem dX12_ask_80 : decode cX12_ask 80 = .ok (.irem, 1) := by decide +kernel
theorem dX12_ask_81 : decode cX12_ask 81 = .ok (.invokevirtual 394, 3) := by decide +kernel
theorem dX12_ask_84 : decode cX12_ask 84 = .ok (.ifCond .eq 52, 3) := by decide +kernel
theorem dX12_ask_87 : decode cX12_ask 87 = .ok (.iconst 0, 1) := by decide +kernel
theorem dX12_ask_88 : decode cX12_ask 88 = .ok (.istore_n 2, 1) := by decide +kernel
theorem dX12_ask_89 : decode cX12_ask 89 = .ok (.iload_n 2, 1) := by decide +kernel
theorem dX12_ask_90 : decode cX12_ask 90 = .ok (.bipush 60, 2) := by decide +kernel
theorem dX12_ask_92 : decode cX12_ask 92 = .ok (.if_icmp .gt 44, 3) := by decide +kernel
theorem dX12_ask_95 : decode cX12_ask 95 = .ok (.aload_n 0, 1) := by decide +kernel
theorem dX12_ask_96 : decode cX12_ask 96 = .ok (.getfield 87, 3) := by decide +kernel
theorem dX12_ask_99 : decode cX12_ask 99 = .ok (.bipush 27, 2) := by decide +kernel
theorem dX12_ask_101 : decode cX12_ask 101 = .ok (.iload_n 2, 1) := by decide +kernel
theorem dX12_ask_102 : decode cX12_ask 102 = .ok (.imul, 1) := by decide +kernel
theorem dX12_ask_103 : decode cX12_ask 103 = .ok (.aload_n 0, 1) := by decide +kernel
theorem dX12_ask_104 : decode cX12_ask 104 = .ok (.iload_n 1, 1) := by decide +kernel
theorem dX12_ask_105 : decode cX12_ask 105 = .ok (.sipush 1000, 3) := by decide +kernel
theorem dX12_ask_108 : decode cX12_ask 108 = .ok (.idiv, 1) := by decide +kernel
theorem dX12_ask_109 : decode cX12_ask 109 = .ok (.iload_n 1, 1) := by decide +kernel
theorem dX12_ask_110 : decode cX12_ask 110 = .ok (.bipush 100, 2) := by decide +kernel
theorem dX12_ask_112 : decode cX12_ask 112 = .ok (.idiv, 1) := by decide +kernel
theorem dX12_ask_113 : decode cX12_ask 113 = .ok (.bipush 10, 2) := by decide +kernel
theorem dX12_ask_115 : decode cX12_ask 115 = .ok (.irem, 1) := by decide +kernel
theorem dX12_ask_116 : decode cX12_ask 116 = .ok (.iload_n 1, 1) := by decide +kernel
theorem dX12_ask_117 : decode cX12_ask 117 = .ok (.bipush 100, 2) := by decide +kernel
theorem dX12_ask_119 : decode cX12_ask 119 = .ok (.irem, 1) := by decide +kernel
theorem dX12_ask_120 : decode cX12_ask 120 = .ok (.iload_n 2, 1) := by decide +kernel
theorem dX12_ask_121 : decode cX12_ask 121 = .ok (.invokevirtual 390, 3) := by decide +kernel
theorem dX12_ask_124 : decode cX12_ask 124 = .ok (.iadd, 1) := by decide +kernel
theorem dX12_ask_125 : decode cX12_ask 125 = .ok (.dup2, 1) := by decide +kernel
theorem dX12_ask_126 : decode cX12_ask 126 = .ok (.iaload, 1) := by decide +kernel
theorem dX12_ask_127 : decode cX12_ask 127 = .ok (.iconst 1, 1) := by decide +kernel
theorem dX12_ask_128 : decode cX12_ask 128 = .ok (.iadd, 1) := by decide +kernel
theorem dX12_ask_129 : decode cX12_ask 129 = .ok (.iastore, 1) := by decide +kernel
theorem dX12_ask_130 : decode cX12_ask 130 = .ok (.iinc 2 1, 3) := by decide +kernel
theorem dX12_ask_133 : decode cX12_ask 133 = .ok (.goto (-44), 3) := by decide +kernel
theorem dX12_ask_136 : decode cX12_ask 136 = .ok (.iinc 1 1, 3) := by decide +kernel
theorem dX12_ask_139 : decode cX12_ask 139 = .ok (.goto (-104), 3) := by decide +kernel
theorem dX12_ask_142 : decode cX12_ask 142 = .ok (.iconst (-1), 1) := by decide +kernel
theorem dX12_ask_143 : decode cX12_ask 143 = .ok (.istore_n 1, 1) := by decide +kernel
theorem dX12_ask_144 : decode cX12_ask 144 = .ok (.iconst 0, 1) := by decide +kernel
theorem dX12_ask_145 : decode cX12_ask 145 = .ok (.istore_n 2, 1) := by decide +kernel
theorem dX12_ask_146 : decode cX12_ask 146 = .ok (.iconst 0, 1) := by decide +kernel
theorem dX12_ask_147 : decode cX12_ask 147 = .ok (.istore_n 3, 1) := by decide +kernel
theorem dX12_ask_148 : decode cX12_ask 148 = .ok (.iload_n 3, 1) := by decide +kernel
theorem dX12_ask_149 : decode cX12_ask 149 = .ok (.bipush 60, 2) := by decide +kernel
theorem dX12_ask_151 : decode cX12_ask 151 = .ok (.if_icmp .gt 63, 3) := by decide +kernel
theorem dX12_ask_154 : decode cX12_ask 154 = .ok (.iconst 0, 1) := by decide +kernel
theorem dX12_ask_155 : decode cX12_ask 155 = .ok (.istore 4, 2) := by decide +kernel
theorem dX12_ask_157 : decode cX12_ask 157 = .ok (.iconst 0, 1) := by decide +kernel
theorem dX12_ask_158 : decode cX12_ask 158 = .ok (.istore 5, 2) := by decide +kernel
theorem dX12_ask_160 : decode cX12_ask 160 = .ok (.iload 5, 2) := by decide +kernel
theorem dX12_ask_162 : decode cX12_ask 162 = .ok (.bipush 26, 2) := by decide +kernel
theorem dX12_ask_164 : decode cX12_ask 164 = .ok (.if_icmp .gt 28, 3) := by decide +kernel
theorem dX12_ask_167 : decode cX12_ask 167 = .ok (.iload 4, 2) := by decide +kernel
theorem dX12_ask_169 : decode cX12_ask 169 = .ok (.aload_n 0, 1) := by decide +kernel
theorem dX12_ask_170 : decode cX12_ask 170 = .ok (.getfield 87, 3) := by decide +kernel
theorem dX12_ask_173 : decode cX12_ask 173 = .ok (.bipush 27, 2) := by decide +kernel
theorem dX12_ask_175 : decode cX12_ask 175 = .ok (.iload_n 3, 1) := by decide +kernel
theorem dX12_ask_176 : decode cX12_ask 176 = .ok (.imul, 1) := by decide +kernel
theorem dX12_ask_177 : decode cX12_ask 177 = .ok (.iload 5, 2) := by decide +kernel
theorem dX12_ask_179 : decode cX12_ask 179 = .ok (.iadd, 1) := by decide +kernel
theorem dX12_ask_180 : decode cX12_ask 180 = .ok (.iaload, 1) := by decide +kernel
theorem dX12_ask_181 : decode cX12_ask 181 = .ok (.invokestatic 290, 3) := by decide +kernel
theorem dX12_ask_184 : decode cX12_ask 184 = .ok (.istore 4, 2) := by decide +kernel
theorem dX12_ask_186 : decode cX12_ask 186 = .ok (.iinc 5 1, 3) := by decide +kernel
theorem dX12_ask_189 : decode cX12_ask 189 = .ok (.goto (-29), 3) := by decide +kernel
theorem dX12_ask_192 : decode cX12_ask 192 = .ok (.iload_n 1, 1) := by decide +kernel
theorem dX12_ask_193 : decode cX12_ask 193 = .ok (.iconst (-1), 1) := by decide +kernel
theorem dX12_ask_194 : decode cX12_ask 194 = .ok (.if_icmp .eq 9, 3) := by decide +kernel
theorem dX12_ask_197 : decode cX12_ask 197 = .ok (.iload 4, 2) := by decide +kernel
theorem dX12_ask_199 : decode cX12_ask 199 = .ok (.iload_n 2, 1) := by decide +kernel
theorem dX12_ask_200 : decode cX12_ask 200 = .ok (.if_icmp .ge 8, 3) := by decide +kernel
theorem dX12_ask_203 : decode cX12_ask 203 = .ok (.iload_n 3, 1) := by decide +kernel
theorem dX12_ask_204 : decode cX12_ask 204 = .ok (.istore_n 1, 1) := by decide +kernel
theorem dX12_ask_205 : decode cX12_ask 205 = .ok (.iload 4, 2) := by decide +kernel
theorem dX12_ask_207 : decode cX12_ask 207 = .ok (.istore_n 2, 1) := by decide +kernel
theorem dX12_ask_208 : decode cX12_ask 208 = .ok (.iinc 3 1, 3) := by decide +kernel
theorem dX12_ask_211 : decode cX12_ask 211 = .ok (.goto (-63), 3) := by decide +kernel
theorem dX12_ask_214 : decode cX12_ask 214 = .ok (.iload_n 1, 1) := by decide +kernel
theorem dX12_ask_215 : decode cX12_ask 215 = .ok (.ireturn, 1) := by decide +kernel
theorem dX12_gameOf_0 : decode cX12_gameOf 0 = .ok (.iconst 0, 1) := by decide +kernel
theorem dX12_gameOf_1 : decode cX12_gameOf 1 = .ok (.istore 5, 2) := by decide +kernel
theorem dX12_gameOf_3 : decode cX12_gameOf 3 = .ok (.iconst 0, 1) := by decide +kernel
theorem dX12_gameOf_4 : decode cX12_gameOf 4 = .ok (.istore 6, 2) := by decide +kernel
theorem dX12_gameOf_6 : decode cX12_gameOf 6 = .ok (.iload 6, 2) := by decide +kernel
theorem dX12_gameOf_8 : decode cX12_gameOf 8 = .ok (.bipush 6, 2) := by decide +kernel
theorem dX12_gameOf_10 : decode cX12_gameOf 10 = .ok (.if_icmp .ge 45, 3) := by decide +kernel
theorem dX12_gameOf_13 : decode cX12_gameOf 13 = .ok (.iload 5, 2) := by decide +kernel
theorem dX12_gameOf_15 : decode cX12_gameOf 15 = .ok (.iconst 1, 1) := by decide +kernel
theorem dX12_gameOf_16 : decode cX12_gameOf 16 = .ok (.aload_n 0, 1) := by decide +kernel
theorem dX12_gameOf_17 : decode cX12_gameOf 17 = .ok (.aload_n 0, 1) := by decide +kernel
theorem dX12_gameOf_18 : decode cX12_gameOf 18 = .ok (.iload_n 1, 1) := by decide +kernel
theorem dX12_gameOf_19 : decode cX12_gameOf 19 = .ok (.iconst 3, 1) := by decide +kernel
theorem dX12_gameOf_20 : decode cX12_gameOf 20 = .ok (.invokevirtual 254, 3) := by decide +kernel
theorem dX12_gameOf_23 : decode cX12_gameOf 23 = .ok (.aload_n 0, 1) := by decide +kernel
theorem dX12_gameOf_24 : decode cX12_gameOf 24 = .ok (.iload_n 1, 1) := by decide +kernel
theorem dX12_gameOf_25 : decode cX12_gameOf 25 = .ok (.iconst 2, 1) := by decide +kernel
theorem dX12_gameOf_26 : decode cX12_gameOf 26 = .ok (.invokevirtual 254, 3) := by decide +kernel
theorem dX12_gameOf_29 : decode cX12_gameOf 29 = .ok (.iload 6, 2) := by decide +kernel
theorem dX12_gameOf_31 : decode cX12_gameOf 31 = .ok (.iload_n 2, 1) := by decide +kernel
theorem dX12_gameOf_32 : decode cX12_gameOf 32 = .ok (.imul, 1) := by decide +kernel
theorem dX12_gameOf_33 : decode cX12_gameOf 33 = .ok (.iload_n 3, 1) := by decide +kernel
theorem dX12_gameOf_34 : decode cX12_gameOf 34 = .ok (.imul, 1) := by decide +kernel
theorem dX12_gameOf_35 : decode cX12_gameOf 35 = .ok (.iadd, 1) := by decide +kernel
theorem dX12_gameOf_36 : decode cX12_gameOf 36 = .ok (.aload_n 0, 1) := by decide +kernel
theorem dX12_gameOf_37 : decode cX12_gameOf 37 = .ok (.iload_n 1, 1) := by decide +kernel
theorem dX12_gameOf_38 : decode cX12_gameOf 38 = .ok (.invokevirtual 266, 3) := by decide +kernel
theorem dX12_gameOf_41 : decode cX12_gameOf 41 = .ok (.irem, 1) := by decide +kernel
theorem dX12_gameOf_42 : decode cX12_gameOf 42 = .ok (.invokevirtual 260, 3) := by decide +kernel
theorem dX12_gameOf_45 : decode cX12_gameOf 45 = .ok (.ishl, 1) := by decide +kernel
theorem dX12_gameOf_46 : decode cX12_gameOf 46 = .ok (.ior, 1) := by decide +kernel
theorem dX12_gameOf_47 : decode cX12_gameOf 47 = .ok (.istore 5, 2) := by decide +kernel
theorem dX12_gameOf_49 : decode cX12_gameOf 49 = .ok (.iinc 6 1, 3) := by decide +kernel
theorem dX12_gameOf_52 : decode cX12_gameOf 52 = .ok (.goto (-46), 3) := by decide +kernel
theorem dX12_gameOf_55 : decode cX12_gameOf 55 = .ok (.iload 5, 2) := by decide +kernel
theorem dX12_gameOf_57 : decode cX12_gameOf 57 = .ok (.ldc_w 400, 3) := by decide +kernel
theorem dX12_gameOf_60 : decode cX12_gameOf 60 = .ok (.iand, 1) := by decide +kernel
theorem dX12_gameOf_61 : decode cX12_gameOf 61 = .ok (.invokestatic 401, 3) := by decide +kernel
theorem dX12_gameOf_64 : decode cX12_gameOf 64 = .ok (.istore 6, 2) := by decide +kernel
theorem dX12_gameOf_66 : decode cX12_gameOf 66 = .ok (.iload 4, 2) := by decide +kernel
theorem dX12_gameOf_68 : decode cX12_gameOf 68 = .ok (.ifCond .ne 12, 3) := by decide +kernel
theorem dX12_gameOf_71 : decode cX12_gameOf 71 = .ok (.iconst 2, 1) := by decide +kernel
theorem dX12_gameOf_72 : decode cX12_gameOf 72 = .ok (.iload 6, 2) := by decide +kernel
theorem dX12_gameOf_74 : decode cX12_gameOf 74 = .ok (.imul, 1) := by decide +kernel
theorem dX12_gameOf_75 : decode cX12_gameOf 75 = .ok (.iload_n 2, 1) := by decide +kernel
theorem dX12_gameOf_76 : decode cX12_gameOf 76 = .ok (.isub, 1) := by decide +kernel
theorem dX12_gameOf_77 : decode cX12_gameOf 77 = .ok (.goto 10, 3) := by decide +kernel
theorem dX12_gameOf_80 : decode cX12_gameOf 80 = .ok (.bipush 9, 2) := by decide +kernel
theorem dX12_gameOf_82 : decode cX12_gameOf 82 = .ok (.iload 6, 2) := by decide +kernel
theorem dX12_gameOf_84 : decode cX12_gameOf 84 = .ok (.isub, 1) := by decide +kernel
theorem dX12_gameOf_85 : decode cX12_gameOf 85 = .ok (.iload_n 3, 1) := by decide +kernel
theorem dX12_gameOf_86 : decode cX12_gameOf 86 = .ok (.iadd, 1) := by decide +kernel
theorem dX12_gameOf_87 : decode cX12_gameOf 87 = .ok (.ireturn, 1) := by decide +kernel
theorem dX12_game_0 : decode cX12_game 0 = .ok (.aload_n 0, 1) := by decide +kernel
theorem dX12_game_1 : decode cX12_game 1 = .ok (.iload_n 1, 1) := by decide +kernel
theorem dX12_game_2 : decode cX12_game 2 = .ok (.invokevirtual 307, 3) := by decide +kernel
theorem dX12_game_5 : decode cX12_game 5 = .ok (.ifCond .eq 43, 3) := by decide +kernel
theorem dX12_game_8 : decode cX12_game 8 = .ok (.iload_n 2, 1) := by decide +kernel
theorem dX12_game_9 : decode cX12_game 9 = .ok (.iconst 1, 1) := by decide +kernel
theorem dX12_game_10 : decode cX12_game 10 = .ok (.iconst 4, 1) := by decide +kernel
theorem dX12_game_11 : decode cX12_game 11 = .ok (.invokestatic 208, 3) := by decide +kernel
theorem dX12_game_14 : decode cX12_game 14 = .ok (.ifCond .eq 34, 3) := by decide +kernel
theorem dX12_game_17 : decode cX12_game 17 = .ok (.iload_n 3, 1) := by decide +kernel
theorem dX12_game_18 : decode cX12_game 18 = .ok (.iconst 0, 1) := by decide +kernel
theorem dX12_game_19 : decode cX12_game 19 = .ok (.iconst 3, 1) := by decide +kernel
theorem dX12_game_20 : decode cX12_game 20 = .ok (.invokestatic 208, 3) := by decide +kernel
theorem dX12_game_23 : decode cX12_game 23 = .ok (.ifCond .eq 25, 3) := by decide +kernel
theorem dX12_game_26 : decode cX12_game 26 = .ok (.iload 4, 2) := by decide +kernel
theorem dX12_game_28 : decode cX12_game 28 = .ok (.iconst 0, 1) := by decide +kernel
theorem dX12_game_29 : decode cX12_game 29 = .ok (.iconst 1, 1) := by decide +kernel
theorem dX12_game_30 : decode cX12_game 30 = .ok (.invokestatic 208, 3) := by decide +kernel
theorem dX12_game_33 : decode cX12_game 33 = .ok (.ifCond .eq 15, 3) := by decide +kernel
theorem dX12_game_36 : decode cX12_game 36 = .ok (.aload_n 0, 1) := by decide +kernel
theorem dX12_game_37 : decode cX12_game 37 = .ok (.iload_n 1, 1) := by decide +kernel
theorem dX12_game_38 : decode cX12_game 38 = .ok (.iload_n 2, 1) := by decide +kernel
theorem dX12_game_39 : decode cX12_game 39 = .ok (.iload_n 3, 1) := by decide +kernel
theorem dX12_game_40 : decode cX12_game 40 = .ok (.iload 4, 2) := by decide +kernel
theorem dX12_game_42 : decode cX12_game 42 = .ok (.invokevirtual 406, 3) := by decide +kernel
theorem dX12_game_45 : decode cX12_game 45 = .ok (.goto 6, 3) := by decide +kernel
theorem dX12_game_48 : decode cX12_game 48 = .ok (.ldc_w 345, 3) := by decide +kernel
theorem dX12_game_51 : decode cX12_game 51 = .ok (.ireturn, 1) := by decide +kernel
theorem dX12_isRest_0 : decode cX12_isRest 0 = .ok (.iconst 0, 1) := by decide +kernel
theorem dX12_isRest_1 : decode cX12_isRest 1 = .ok (.istore 4, 2) := by decide +kernel
theorem dX12_isRest_3 : decode cX12_isRest 3 = .ok (.iload 4, 2) := by decide +kernel
theorem dX12_isRest_5 : decode cX12_isRest 5 = .ok (.iconst 4, 1) := by decide +kernel
theorem dX12_isRest_6 : decode cX12_isRest 6 = .ok (.if_icmp .ge 53, 3) := by decide +kernel
theorem dX12_isRest_9 : decode cX12_isRest 9 = .ok (.aload_n 0, 1) := by decide +kernel
theorem dX12_isRest_10 : decode cX12_isRest 10 = .ok (.iload_n 1, 1) := by decide +kernel
theorem dX12_isRest_11 : decode cX12_isRest 11 = .ok (.iload 4, 2) := by decide +kernel
theorem dX12_isRest_13 : decode cX12_isRest 13 = .ok (.iconst 1, 1) := by decide +kernel
theorem dX12_isRest_14 : decode cX12_isRest 14 = .ok (.iadd, 1) := by decide +kernel
theorem dX12_isRest_15 : decode cX12_isRest 15 = .ok (.iload_n 3, 1) := by decide +kernel
theorem dX12_isRest_16 : decode cX12_isRest 16 = .ok (.iconst 0, 1) := by decide +kernel
theorem dX12_isRest_17 : decode cX12_isRest 17 = .ok (.invokevirtual 406, 3) := by decide +kernel
theorem dX12_isRest_20 : decode cX12_isRest 20 = .ok (.aload_n 0, 1) := by decide +kernel
theorem dX12_isRest_21 : decode cX12_isRest 21 = .ok (.iload_n 1, 1) := by decide +kernel
theorem dX12_isRest_22 : decode cX12_isRest 22 = .ok (.iload_n 2, 1) := by decide +kernel
theorem dX12_isRest_23 : decode cX12_isRest 23 = .ok (.iload_n 3, 1) := by decide +kernel
theorem dX12_isRest_24 : decode cX12_isRest 24 = .ok (.iconst 0, 1) := by decide +kernel
theorem dX12_isRest_25 : decode cX12_isRest 25 = .ok (.invokevirtual 406, 3) := by decide +kernel
theorem dX12_isRest_28 : decode cX12_isRest 28 = .ok (.if_icmp .gt 23, 3) := by decide +kernel
theorem dX12_isRest_31 : decode cX12_isRest 31 = .ok (.aload_n 0, 1) := by decide +kernel
theorem dX12_isRest_32 : decode cX12_isRest 32 = .ok (.iload_n 1, 1) := by decide +kernel
theorem dX12_isRest_33 : decode cX12_isRest 33 = .ok (.iload_n 2, 1) := by decide +kernel
theorem dX12_isRest_34 : decode cX12_isRest 34 = .ok (.iload 4, 2) := by decide +kernel
theorem dX12_isRest_36 : decode cX12_isRest 36 = .ok (.iconst 1, 1) := by decide +kernel
theorem dX12_isRest_37 : decode cX12_isRest 37 = .ok (.invokevirtual 406, 3) := by decide +kernel
theorem dX12_isRest_40 : decode cX12_isRest 40 = .ok (.aload_n 0, 1) := by decide +kernel
theorem dX12_isRest_41 : decode cX12_isRest 41 = .ok (.iload_n 1, 1) := by decide +kernel
theorem dX12_isRest_42 : decode cX12_isRest 42 = .ok (.iload_n 2, 1) := by decide +kernel
theorem dX12_isRest_43 : decode cX12_isRest 43 = .ok (.iload_n 3, 1) := by decide +kernel
theorem dX12_isRest_44 : decode cX12_isRest 44 = .ok (.iconst 1, 1) := by decide +kernel
theorem dX12_isRest_45 : decode cX12_isRest 45 = .ok (.invokevirtual 406, 3) := by decide +kernel
theorem dX12_isRest_48 : decode cX12_isRest 48 = .ok (.if_icmp .le 5, 3) := by decide +kernel
theorem dX12_isRest_51 : decode cX12_isRest 51 = .ok (.iconst 0, 1) := by decide +kernel
theorem dX12_isRest_52 : decode cX12_isRest 52 = .ok (.ireturn, 1) := by decide +kernel
theorem dX12_isRest_53 : decode cX12_isRest 53 = .ok (.iinc 4 1, 3) := by decide +kernel
theorem dX12_isRest_56 : decode cX12_isRest 56 = .ok (.goto (-53), 3) := by decide +kernel
theorem dX12_isRest_59 : decode cX12_isRest 59 = .ok (.iconst 1, 1) := by decide +kernel
theorem dX12_isRest_60 : decode cX12_isRest 60 = .ok (.ireturn, 1) := by decide +kernel
theorem dX12_rests_0 : decode cX12_rests 0 = .ok (.aload_n 0, 1) := by decide +kernel
theorem dX12_rests_1 : decode cX12_rests 1 = .ok (.iload_n 1, 1) := by decide +kernel
theorem dX12_rests_2 : decode cX12_rests 2 = .ok (.invokevirtual 307, 3) := by decide +kernel
theorem dX12_rests_5 : decode cX12_rests 5 = .ok (.ifCond .eq 8, 3) := by decide +kernel
theorem dX12_rests_8 : decode cX12_rests 8 = .ok (.iload_n 2, 1) := by decide +kernel
theorem dX12_rests_9 : decode cX12_rests 9 = .ok (.iconst (-1), 1) := by decide +kernel
theorem dX12_rests_10 : decode cX12_rests 10 = .ok (.if_icmp .ge 5, 3) := by decide +kernel
theorem dX12_rests_13 : decode cX12_rests 13 = .ok (.iconst (-1), 1) := by decide +kernel
theorem dX12_rests_14 : decode cX12_rests 14 = .ok (.ireturn, 1) := by decide +kernel
theorem dX12_rests_15 : decode cX12_rests 15 = .ok (.iconst 0, 1) := by decide +kernel
theorem dX12_rests_16 : decode cX12_rests 16 = .ok (.istore_n 3, 1) := by decide +kernel
theorem dX12_rests_17 : decode cX12_rests 17 = .ok (.iconst 0, 1) := by decide +kernel
theorem dX12_rests_18 : decode cX12_rests 18 = .ok (.istore 4, 2) := by decide +kernel
theorem dX12_rests_20 : decode cX12_rests 20 = .ok (.iload 4, 2) := by decide +kernel
theorem dX12_rests_22 : decode cX12_rests 22 = .ok (.bipush 16, 2) := by decide +kernel
theorem dX12_rests_24 : decode cX12_rests 24 = .ok (.if_icmp .ge 50, 3) := by decide +kernel
theorem dX12_rests_27 : decode cX12_rests 27 = .ok (.aload_n 0, 1) := by decide +kernel
theorem dX12_rests_28 : decode cX12_rests 28 = .ok (.iload_n 1, 1) := by decide +kernel
theorem dX12_rests_29 : decode cX12_rests 29 = .ok (.iload 4, 2) := by decide +kernel
theorem dX12_rests_31 : decode cX12_rests 31 = .ok (.iconst 4, 1) := by decide +kernel
theorem dX12_rests_32 : decode cX12_rests 32 = .ok (.idiv, 1) := by decide +kernel
theorem dX12_rests_33 : decode cX12_rests 33 = .ok (.iconst 1, 1) := by decide +kernel
theorem dX12_rests_34 : decode cX12_rests 34 = .ok (.iadd, 1) := by decide +kernel
theorem dX12_rests_35 : decode cX12_rests 35 = .ok (.iload 4, 2) := by decide +kernel
theorem dX12_rests_37 : decode cX12_rests 37 = .ok (.iconst 4, 1) := by decide +kernel
theorem dX12_rests_38 : decode cX12_rests 38 = .ok (.irem, 1) := by decide +kernel
theorem dX12_rests_39 : decode cX12_rests 39 = .ok (.invokevirtual 409, 3) := by decide +kernel
theorem dX12_rests_42 : decode cX12_rests 42 = .ok (.ifCond .eq 26, 3) := by decide +kernel
theorem dX12_rests_45 : decode cX12_rests 45 = .ok (.iload_n 3, 1) := by decide +kernel
theorem dX12_rests_46 : decode cX12_rests 46 = .ok (.iload_n 2, 1) := by decide +kernel
theorem dX12_rests_47 : decode cX12_rests 47 = .ok (.if_icmp .ne 18, 3) := by decide +kernel
theorem dX12_rests_50 : decode cX12_rests 50 = .ok (.bipush 10, 2) := by decide +kernel
theorem dX12_rests_52 : decode cX12_rests 52 = .ok (.iload 4, 2) := by decide +kernel
theorem dX12_rests_54 : decode cX12_rests 54 = .ok (.iconst 4, 1) := by decide +kernel
theorem dX12_rests_55 : decode cX12_rests 55 = .ok (.idiv, 1) := by decide +kernel
theorem dX12_rests_56 : decode cX12_rests 56 = .ok (.iconst 1, 1) := by decide +kernel
theorem dX12_rests_57 : decode cX12_rests 57 = .ok (.iadd, 1) := by decide +kernel
theorem dX12_rests_58 : decode cX12_rests 58 = .ok (.imul, 1) := by decide +kernel
theorem dX12_rests_59 : decode cX12_rests 59 = .ok (.iload 4, 2) := by decide +kernel
theorem dX12_rests_61 : decode cX12_rests 61 = .ok (.iconst 4, 1) := by decide +kernel
theorem dX12_rests_62 : decode cX12_rests 62 = .ok (.irem, 1) := by decide +kernel
theorem dX12_rests_63 : decode cX12_rests 63 = .ok (.iadd, 1) := by decide +kernel
theorem dX12_rests_64 : decode cX12_rests 64 = .ok (.ireturn, 1) := by decide +kernel
theorem dX12_rests_65 : decode cX12_rests 65 = .ok (.iinc 3 1, 3) := by decide +kernel
theorem dX12_rests_68 : decode cX12_rests 68 = .ok (.iinc 4 1, 3) := by decide +kernel
theorem dX12_rests_71 : decode cX12_rests 71 = .ok (.goto (-51), 3) := by decide +kernel
theorem dX12_rests_74 : decode cX12_rests 74 = .ok (.iload_n 2, 1) := by decide +kernel
theorem dX12_rests_75 : decode cX12_rests 75 = .ok (.iconst (-1), 1) := by decide +kernel
theorem dX12_rests_76 : decode cX12_rests 76 = .ok (.if_icmp .ne 7, 3) := by decide +kernel
theorem dX12_rests_79 : decode cX12_rests 79 = .ok (.iload_n 3, 1) := by decide +kernel
theorem dX12_rests_80 : decode cX12_rests 80 = .ok (.goto 4, 3) := by decide +kernel
theorem dX12_rests_83 : decode cX12_rests 83 = .ok (.iconst (-1), 1) := by decide +kernel
theorem dX12_rests_84 : decode cX12_rests 84 = .ok (.ireturn, 1) := by decide +kernel
theorem dX12_oddsFrom_0 : decode cX12_oddsFrom 0 = .ok (.iload 4, 2) := by decide +kernel
theorem dX12_oddsFrom_2 : decode cX12_oddsFrom 2 = .ok (.ifCond .ne 26, 3) := by decide +kernel
theorem dX12_oddsFrom_5 : decode cX12_oddsFrom 5 = .ok (.aload_n 0, 1) := by decide +kernel
theorem dX12_oddsFrom_6 : decode cX12_oddsFrom 6 = .ok (.aload_n 0, 1) := by decide +kernel
theorem dX12_oddsFrom_7 : decode cX12_oddsFrom 7 = .ok (.iload_n 1, 1) := by decide +kernel
theorem dX12_oddsFrom_8 : decode cX12_oddsFrom 8 = .ok (.iconst 3, 1) := by decide +kernel
theorem dX12_oddsFrom_9 : decode cX12_oddsFrom 9 = .ok (.invokevirtual 254, 3) := by decide +kernel
theorem dX12_oddsFrom_12 : decode cX12_oddsFrom 12 = .ok (.iload_n 2, 1) := by decide +kernel
theorem dX12_oddsFrom_13 : decode cX12_oddsFrom 13 = .ok (.invokevirtual 260, 3) := by decide +kernel
theorem dX12_oddsFrom_16 : decode cX12_oddsFrom 16 = .ok (.iload 6, 2) := by decide +kernel
theorem dX12_oddsFrom_18 : decode cX12_oddsFrom 18 = .ok (.if_icmp .ne 8, 3) := by decide +kernel
theorem dX12_oddsFrom_21 : decode cX12_oddsFrom 21 = .ok (.iload 7, 2) := by decide +kernel
theorem dX12_oddsFrom_23 : decode cX12_oddsFrom 23 = .ok (.goto 4, 3) := by decide +kernel
theorem dX12_oddsFrom_26 : decode cX12_oddsFrom 26 = .ok (.iconst 0, 1) := by decide +kernel
theorem dX12_oddsFrom_27 : decode cX12_oddsFrom 27 = .ok (.ireturn, 1) := by decide +kernel
theorem dX12_oddsFrom_28 : decode cX12_oddsFrom 28 = .ok (.iload 7, 2) := by decide +kernel
theorem dX12_oddsFrom_30 : decode cX12_oddsFrom 30 = .ok (.i2l, 1) := by decide +kernel
theorem dX12_oddsFrom_31 : decode cX12_oddsFrom 31 = .ok (.iload 5, 2) := by decide +kernel
theorem dX12_oddsFrom_33 : decode cX12_oddsFrom 33 = .ok (.i2l, 1) := by decide +kernel
theorem dX12_oddsFrom_34 : decode cX12_oddsFrom 34 = .ok (.lmul, 1) := by decide +kernel
theorem dX12_oddsFrom_35 : decode cX12_oddsFrom 35 = .ok (.ldc2_w 412, 3) := by decide +kernel
theorem dX12_oddsFrom_38 : decode cX12_oddsFrom 38 = .ok (.ldiv, 1) := by decide +kernel
theorem dX12_oddsFrom_39 : decode cX12_oddsFrom 39 = .ok (.l2i, 1) := by decide +kernel
theorem dX12_oddsFrom_40 : decode cX12_oddsFrom 40 = .ok (.istore 8, 2) := by decide +kernel
theorem dX12_oddsFrom_42 : decode cX12_oddsFrom 42 = .ok (.aload_n 0, 1) := by decide +kernel
theorem dX12_oddsFrom_43 : decode cX12_oddsFrom 43 = .ok (.iload_n 1, 1) := by decide +kernel
theorem dX12_oddsFrom_44 : decode cX12_oddsFrom 44 = .ok (.iload_n 2, 1) := by decide +kernel
theorem dX12_oddsFrom_45 : decode cX12_oddsFrom 45 = .ok (.iload_n 3, 1) := by decide +kernel
theorem dX12_oddsFrom_46 : decode cX12_oddsFrom 46 = .ok (.iconst 1, 1) := by decide +kernel
theorem dX12_oddsFrom_47 : decode cX12_oddsFrom 47 = .ok (.iadd, 1) := by decide +kernel
theorem dX12_oddsFrom_48 : decode cX12_oddsFrom 48 = .ok (.iload 4, 2) := by decide +kernel
theorem dX12_oddsFrom_50 : decode cX12_oddsFrom 50 = .ok (.iconst 1, 1) := by decide +kernel
theorem dX12_oddsFrom_51 : decode cX12_oddsFrom 51 = .ok (.isub, 1) := by decide +kernel
theorem dX12_oddsFrom_52 : decode cX12_oddsFrom 52 = .ok (.iload 5, 2) := by decide +kernel
theorem dX12_oddsFrom_54 : decode cX12_oddsFrom 54 = .ok (.iload 6, 2) := by decide +kernel
theorem dX12_oddsFrom_56 : decode cX12_oddsFrom 56 = .ok (.iload 8, 2) := by decide +kernel
theorem dX12_oddsFrom_58 : decode cX12_oddsFrom 58 = .ok (.invokevirtual 414, 3) := by decide +kernel
theorem dX12_oddsFrom_61 : decode cX12_oddsFrom 61 = .ok (.aload_n 0, 1) := by decide +kernel
theorem dX12_oddsFrom_62 : decode cX12_oddsFrom 62 = .ok (.iload_n 1, 1) := by decide +kernel
theorem dX12_oddsFrom_63 : decode cX12_oddsFrom 63 = .ok (.aload_n 0, 1) := by decide +kernel
theorem dX12_oddsFrom_64 : decode cX12_oddsFrom 64 = .ok (.iload_n 1, 1) := by decide +kernel
theorem dX12_oddsFrom_65 : decode cX12_oddsFrom 65 = .ok (.iload_n 2, 1) := by decide +kernel
theorem dX12_oddsFrom_66 : decode cX12_oddsFrom 66 = .ok (.iload_n 3, 1) := by decide +kernel
theorem dX12_oddsFrom_67 : decode cX12_oddsFrom 67 = .ok (.invokevirtual 298, 3) := by decide +kernel
theorem dX12_oddsFrom_70 : decode cX12_oddsFrom 70 = .ok (.iload_n 3, 1) := by decide +kernel
theorem dX12_oddsFrom_71 : decode cX12_oddsFrom 71 = .ok (.iconst 1, 1) := by decide +kernel
theorem dX12_oddsFrom_72 : decode cX12_oddsFrom 72 = .ok (.iadd, 1) := by decide +kernel
theorem dX12_oddsFrom_73 : decode cX12_oddsFrom 73 = .ok (.iload 4, 2) := by decide +kernel
theorem dX12_oddsFrom_75 : decode cX12_oddsFrom 75 = .ok (.iconst 1, 1) := by decide +kernel
theorem dX12_oddsFrom_76 : decode cX12_oddsFrom 76 = .ok (.isub, 1) := by decide +kernel
theorem dX12_oddsFrom_77 : decode cX12_oddsFrom 77 = .ok (.iload 5, 2) := by decide +kernel
theorem dX12_oddsFrom_79 : decode cX12_oddsFrom 79 = .ok (.iload 6, 2) := by decide +kernel
theorem dX12_oddsFrom_81 : decode cX12_oddsFrom 81 = .ok (.iload 7, 2) := by decide +kernel
theorem dX12_oddsFrom_83 : decode cX12_oddsFrom 83 = .ok (.iload 8, 2) := by decide +kernel
theorem dX12_oddsFrom_85 : decode cX12_oddsFrom 85 = .ok (.isub, 1) := by decide +kernel
theorem dX12_oddsFrom_86 : decode cX12_oddsFrom 86 = .ok (.invokevirtual 414, 3) := by decide +kernel
theorem dX12_oddsFrom_89 : decode cX12_oddsFrom 89 = .ok (.iadd, 1) := by decide +kernel
theorem dX12_oddsFrom_90 : decode cX12_oddsFrom 90 = .ok (.ireturn, 1) := by decide +kernel
theorem dX12_odds_0 : decode cX12_odds 0 = .ok (.aload_n 0, 1) := by decide +kernel
theorem dX12_odds_1 : decode cX12_odds 1 = .ok (.iload_n 1, 1) := by decide +kernel
theorem dX12_odds_2 : decode cX12_odds 2 = .ok (.invokevirtual 307, 3) := by decide +kernel
theorem dX12_odds_5 : decode cX12_odds 5 = .ok (.ifCond .eq 34, 3) := by decide +kernel
theorem dX12_odds_8 : decode cX12_odds 8 = .ok (.iload_n 2, 1) := by decide +kernel
theorem dX12_odds_9 : decode cX12_odds 9 = .ok (.iconst 0, 1) := by decide +kernel
theorem dX12_odds_10 : decode cX12_odds 10 = .ok (.bipush 8, 2) := by decide +kernel
theorem dX12_odds_12 : decode cX12_odds 12 = .ok (.invokestatic 208, 3) := by decide +kernel
theorem dX12_odds_15 : decode cX12_odds 15 = .ok (.ifCond .eq 24, 3) := by decide +kernel
theorem dX12_odds_18 : decode cX12_odds 18 = .ok (.iload_n 3, 1) := by decide +kernel
theorem dX12_odds_19 : decode cX12_odds 19 = .ok (.iconst 0, 1) := by decide +kernel
theorem dX12_odds_20 : decode cX12_odds 20 = .ok (.bipush 100, 2) := by decide +kernel
theorem dX12_odds_22 : decode cX12_odds 22 = .ok (.invokestatic 208, 3) := by decide +kernel
theorem dX12_odds_25 : decode cX12_odds 25 = .ok (.ifCond .eq 14, 3) := by decide +kernel
theorem dX12_odds_28 : decode cX12_odds 28 = .ok (.iload 4, 2) := by decide +kernel
theorem dX12_odds_30 : decode cX12_odds 30 = .ok (.iconst 0, 1) := by decide +kernel
theorem dX12_odds_31 : decode cX12_odds 31 = .ok (.bipush 26, 2) := by decide +kernel
theorem dX12_odds_33 : decode cX12_odds 33 = .ok (.invokestatic 208, 3) := by decide +kernel
theorem dX12_odds_36 : decode cX12_odds 36 = .ok (.ifCond .ne 5, 3) := by decide +kernel
theorem dX12_odds_39 : decode cX12_odds 39 = .ok (.iconst (-1), 1) := by decide +kernel
theorem dX12_odds_40 : decode cX12_odds 40 = .ok (.ireturn, 1) := by decide +kernel
theorem dX12_odds_41 : decode cX12_odds 41 = .ok (.aload_n 0, 1) := by decide +kernel
theorem dX12_odds_42 : decode cX12_odds 42 = .ok (.iload_n 1, 1) := by decide +kernel
theorem dX12_odds_43 : decode cX12_odds 43 = .ok (.aload_n 0, 1) := by decide +kernel
theorem dX12_odds_44 : decode cX12_odds 44 = .ok (.iload_n 1, 1) := by decide +kernel
theorem dX12_odds_45 : decode cX12_odds 45 = .ok (.iconst 2, 1) := by decide +kernel
theorem dX12_odds_46 : decode cX12_odds 46 = .ok (.invokevirtual 254, 3) := by decide +kernel
theorem dX12_odds_49 : decode cX12_odds 49 = .ok (.aload_n 0, 1) := by decide +kernel
theorem dX12_odds_50 : decode cX12_odds 50 = .ok (.getfield 52, 3) := by decide +kernel
theorem dX12_odds_53 : decode cX12_odds 53 = .ok (.bipush 19, 2) := by decide +kernel
theorem dX12_odds_55 : decode cX12_odds 55 = .ok (.iaload, 1) := by decide +kernel
theorem dX12_odds_56 : decode cX12_odds 56 = .ok (.iload_n 2, 1) := by decide +kernel
theorem dX12_odds_57 : decode cX12_odds 57 = .ok (.iload_n 3, 1) := by decide +kernel
theorem dX12_odds_58 : decode cX12_odds 58 = .ok (.iload 4, 2) := by decide +kernel
theorem dX12_odds_60 : decode cX12_odds 60 = .ok (.ldc_w 418, 3) := by decide +kernel
theorem dX12_odds_63 : decode cX12_odds 63 = .ok (.invokevirtual 414, 3) := by decide +kernel
theorem dX12_odds_66 : decode cX12_odds 66 = .ok (.ireturn, 1) := by decide +kernel
theorem dX12_shares_0 : decode cX12_shares 0 = .ok (.aload_n 0, 1) := by decide +kernel
theorem dX12_shares_1 : decode cX12_shares 1 = .ok (.iload_n 1, 1) := by decide +kernel
theorem dX12_shares_2 : decode cX12_shares 2 = .ok (.invokevirtual 307, 3) := by decide +kernel
theorem dX12_shares_5 : decode cX12_shares 5 = .ok (.ifCond .eq 14, 3) := by decide +kernel
theorem dX12_shares_8 : decode cX12_shares 8 = .ok (.iload_n 2, 1) := by decide +kernel
theorem dX12_shares_9 : decode cX12_shares 9 = .ok (.iconst 0, 1) := by decide +kernel
theorem dX12_shares_10 : decode cX12_shares 10 = .ok (.sipush 999, 3) := by decide +kernel
theorem dX12_shares_13 : decode cX12_shares 13 = .ok (.invokestatic 208, 3) := by decide +kernel
theorem dX12_shares_16 : decode cX12_shares 16 = .ok (.ifCond .ne 5, 3) := by decide +kernel
theorem dX12_shares_19 : decode cX12_shares 19 = .ok (.iconst (-1), 1) := by decide +kernel
theorem dX12_shares_20 : decode cX12_shares 20 = .ok (.ireturn, 1) := by decide +kernel
theorem dX12_shares_21 : decode cX12_shares 21 = .ok (.iconst 0, 1) := by decide +kernel
theorem dX12_shares_22 : decode cX12_shares 22 = .ok (.istore_n 3, 1) := by decide +kernel
theorem dX12_shares_23 : decode cX12_shares 23 = .ok (.iconst 0, 1) := by decide +kernel
theorem dX12_shares_24 : decode cX12_shares 24 = .ok (.istore 4, 2) := by decide +kernel
theorem dX12_shares_26 : decode cX12_shares 26 = .ok (.iload 4, 2) := by decide +kernel
theorem dX12_shares_28 : decode cX12_shares 28 = .ok (.aload_n 0, 1) := by decide +kernel
theorem dX12_shares_29 : decode cX12_shares 29 = .ok (.getfield 263, 3) := by decide +kernel
theorem dX12_shares_32 : decode cX12_shares 32 = .ok (.if_icmp .ge 19, 3) := by decide +kernel
theorem dX12_shares_35 : decode cX12_shares 35 = .ok (.iload_n 3, 1) := by decide +kernel
theorem dX12_shares_36 : decode cX12_shares 36 = .ok (.aload_n 0, 1) := by decide +kernel
theorem dX12_shares_37 : decode cX12_shares 37 = .ok (.iload 4, 2) := by decide +kernel
theorem dX12_shares_39 : decode cX12_shares 39 = .ok (.iconst 0, 1) := by decide +kernel
theorem dX12_shares_40 : decode cX12_shares 40 = .ok (.invokevirtual 254, 3) := by decide +kernel
theorem dX12_shares_43 : decode cX12_shares 43 = .ok (.iadd, 1) := by decide +kernel
theorem dX12_shares_44 : decode cX12_shares 44 = .ok (.istore_n 3, 1) := by decide +kernel
theorem dX12_shares_45 : decode cX12_shares 45 = .ok (.iinc 4 1, 3) := by decide +kernel
theorem dX12_shares_48 : decode cX12_shares 48 = .ok (.goto (-22), 3) := by decide +kernel
theorem dX12_shares_51 : decode cX12_shares 51 = .ok (.iload_n 3, 1) := by decide +kernel
theorem dX12_shares_52 : decode cX12_shares 52 = .ok (.ifCond .ne 7, 3) := by decide +kernel
theorem dX12_shares_55 : decode cX12_shares 55 = .ok (.iconst 0, 1) := by decide +kernel
theorem dX12_shares_56 : decode cX12_shares 56 = .ok (.goto 13, 3) := by decide +kernel
theorem dX12_shares_59 : decode cX12_shares 59 = .ok (.iload_n 2, 1) := by decide +kernel
theorem dX12_shares_60 : decode cX12_shares 60 = .ok (.aload_n 0, 1) := by decide +kernel
theorem dX12_shares_61 : decode cX12_shares 61 = .ok (.iload_n 1, 1) := by decide +kernel
theorem dX12_shares_62 : decode cX12_shares 62 = .ok (.iconst 0, 1) := by decide +kernel
theorem dX12_shares_63 : decode cX12_shares 63 = .ok (.invokevirtual 254, 3) := by decide +kernel
theorem dX12_shares_66 : decode cX12_shares 66 = .ok (.imul, 1) := by decide +kernel
theorem dX12_shares_67 : decode cX12_shares 67 = .ok (.iload_n 3, 1) := by decide +kernel
theorem dX12_shares_68 : decode cX12_shares 68 = .ok (.idiv, 1) := by decide +kernel
theorem dX12_shares_69 : decode cX12_shares 69 = .ok (.ireturn, 1) := by decide +kernel
theorem dX12_topBy_0 : decode cX12_topBy 0 = .ok (.iconst 0, 1) := by decide +kernel
theorem dX12_topBy_1 : decode cX12_topBy 1 = .ok (.istore_n 2, 1) := by decide +kernel
theorem dX12_topBy_2 : decode cX12_topBy 2 = .ok (.iconst 1, 1) := by decide +kernel
theorem dX12_topBy_3 : decode cX12_topBy 3 = .ok (.istore_n 3, 1) := by decide +kernel
theorem dX12_topBy_4 : decode cX12_topBy 4 = .ok (.iload_n 3, 1) := by decide +kernel
theorem dX12_topBy_5 : decode cX12_topBy 5 = .ok (.aload_n 0, 1) := by decide +kernel
theorem dX12_topBy_6 : decode cX12_topBy 6 = .ok (.getfield 263, 3) := by decide +kernel
theorem dX12_topBy_9 : decode cX12_topBy 9 = .ok (.if_icmp .ge 53, 3) := by decide +kernel
theorem dX12_topBy_12 : decode cX12_topBy 12 = .ok (.iload_n 1, 1) := by decide +kernel
theorem dX12_topBy_13 : decode cX12_topBy 13 = .ok (.ifCond .eq 19, 3) := by decide +kernel
theorem dX12_topBy_16 : decode cX12_topBy 16 = .ok (.aload_n 0, 1) := by decide +kernel
theorem dX12_topBy_17 : decode cX12_topBy 17 = .ok (.iload_n 3, 1) := by decide +kernel
theorem dX12_topBy_18 : decode cX12_topBy 18 = .ok (.iconst 0, 1) := by decide +kernel
theorem dX12_topBy_19 : decode cX12_topBy 19 = .ok (.invokevirtual 254, 3) := by decide +kernel
theorem dX12_topBy_22 : decode cX12_topBy 22 = .ok (.aload_n 0, 1) := by decide +kernel
theorem dX12_topBy_23 : decode cX12_topBy 23 = .ok (.iload_n 2, 1) := by decide +kernel
theorem dX12_topBy_24 : decode cX12_topBy 24 = .ok (.iconst 0, 1) := by decide +kernel
theorem dX12_topBy_25 : decode cX12_topBy 25 = .ok (.invokevirtual 254, 3) := by decide +kernel
theorem dX12_topBy_28 : decode cX12_topBy 28 = .ok (.isub, 1) := by decide +kernel
theorem dX12_topBy_29 : decode cX12_topBy 29 = .ok (.goto 14, 3) := by decide +kernel
theorem dX12_topBy_32 : decode cX12_topBy 32 = .ok (.aload_n 0, 1) := by decide +kernel
theorem dX12_topBy_33 : decode cX12_topBy 33 = .ok (.iload_n 3, 1) := by decide +kernel
theorem dX12_topBy_34 : decode cX12_topBy 34 = .ok (.invokevirtual 266, 3) := by decide +kernel
theorem dX12_topBy_37 : decode cX12_topBy 37 = .ok (.aload_n 0, 1) := by decide +kernel
theorem dX12_topBy_38 : decode cX12_topBy 38 = .ok (.iload_n 2, 1) := by decide +kernel
theorem dX12_topBy_39 : decode cX12_topBy 39 = .ok (.invokevirtual 266, 3) := by decide +kernel
theorem dX12_topBy_42 : decode cX12_topBy 42 = .ok (.isub, 1) := by decide +kernel
theorem dX12_topBy_43 : decode cX12_topBy 43 = .ok (.istore 4, 2) := by decide +kernel
theorem dX12_topBy_45 : decode cX12_topBy 45 = .ok (.iload 4, 2) := by decide +kernel
theorem dX12_topBy_47 : decode cX12_topBy 47 = .ok (.ifCond .le 7, 3) := by decide +kernel
theorem dX12_topBy_50 : decode cX12_topBy 50 = .ok (.iload_n 3, 1) := by decide +kernel
theorem dX12_topBy_51 : decode cX12_topBy 51 = .ok (.goto 4, 3) := by decide +kernel
theorem dX12_topBy_54 : decode cX12_topBy 54 = .ok (.iload_n 2, 1) := by decide +kernel
theorem dX12_topBy_55 : decode cX12_topBy 55 = .ok (.istore_n 2, 1) := by decide +kernel
theorem dX12_topBy_56 : decode cX12_topBy 56 = .ok (.iinc 3 1, 3) := by decide +kernel
theorem dX12_topBy_59 : decode cX12_topBy 59 = .ok (.goto (-55), 3) := by decide +kernel
theorem dX12_topBy_62 : decode cX12_topBy 62 = .ok (.iload_n 2, 1) := by decide +kernel
theorem dX12_topBy_63 : decode cX12_topBy 63 = .ok (.ireturn, 1) := by decide +kernel
theorem dX12_stripsWith_0 : decode cX12_stripsWith 0 = .ok (.iconst 0, 1) := by decide +kernel
theorem dX12_stripsWith_1 : decode cX12_stripsWith 1 = .ok (.istore_n 2, 1) := by decide +kernel
theorem dX12_stripsWith_2 : decode cX12_stripsWith 2 = .ok (.iconst 0, 1) := by decide +kernel
theorem dX12_stripsWith_3 : decode cX12_stripsWith 3 = .ok (.istore_n 3, 1) := by decide +kernel
theorem dX12_stripsWith_4 : decode cX12_stripsWith 4 = .ok (.iload_n 3, 1) := by decide +kernel
theorem dX12_stripsWith_5 : decode cX12_stripsWith 5 = .ok (.aload_n 0, 1) := by decide +kernel
theorem dX12_stripsWith_6 : decode cX12_stripsWith 6 = .ok (.getfield 251, 3) := by decide +kernel
theorem dX12_stripsWith_9 : decode cX12_stripsWith 9 = .ok (.if_icmp .ge 73, 3) := by decide +kernel
theorem dX12_stripsWith_12 : decode cX12_stripsWith 12 = .ok (.iconst 0, 1) := by decide +kernel
theorem dX12_stripsWith_13 : decode cX12_stripsWith 13 = .ok (.istore 4, 2) := by decide +kernel
theorem dX12_stripsWith_15 : decode cX12_stripsWith 15 = .ok (.iconst 0, 1) := by decide +kernel
theorem dX12_stripsWith_16 : decode cX12_stripsWith 16 = .ok (.istore 5, 2) := by decide +kernel
theorem dX12_stripsWith_18 : decode cX12_stripsWith 18 = .ok (.iload 5, 2) := by decide +kernel
theorem dX12_stripsWith_20 : decode cX12_stripsWith 20 = .ok (.aload_n 0, 1) := by decide +kernel
theorem dX12_stripsWith_21 : decode cX12_stripsWith 21 = .ok (.getfield 49, 3) := by decide +kernel
theorem dX12_stripsWith_24 : decode cX12_stripsWith 24 = .ok (.iload_n 3, 1) := by decide +kernel
theorem dX12_stripsWith_25 : decode cX12_stripsWith 25 = .ok (.iaload, 1) := by decide +kernel
theorem dX12_stripsWith_26 : decode cX12_stripsWith 26 = .ok (.if_icmp .ge 37, 3) := by decide +kernel
theorem dX12_stripsWith_29 : decode cX12_stripsWith 29 = .ok (.iload 4, 2) := by decide +kernel
theorem dX12_stripsWith_31 : decode cX12_stripsWith 31 = .ok (.ifCond .ne 19, 3) := by decide +kernel
theorem dX12_stripsWith_34 : decode cX12_stripsWith 34 = .ok (.aload_n 0, 1) := by decide +kernel
theorem dX12_stripsWith_35 : decode cX12_stripsWith 35 = .ok (.getfield 46, 3) := by decide +kernel
theorem dX12_stripsWith_38 : decode cX12_stripsWith 38 = .ok (.bipush 16, 2) := by decide +kernel
theorem dX12_stripsWith_40 : decode cX12_stripsWith 40 = .ok (.iload_n 3, 1) := by decide +kernel
theorem dX12_stripsWith_41 : decode cX12_stripsWith 41 = .ok (.imul, 1) := by decide +kernel
theorem dX12_stripsWith_42 : decode cX12_stripsWith 42 = .ok (.iload 5, 2) := by decide +kernel
theorem dX12_stripsWith_44 : decode cX12_stripsWith 44 = .ok (.iadd, 1) := by decide +kernel
theorem dX12_stripsWith_45 : decode cX12_stripsWith 45 = .ok (.iaload, 1) := by decide +kernel
theorem dX12_stripsWith_46 : decode cX12_stripsWith 46 = .ok (.iload_n 1, 1) := by decide +kernel
theorem dX12_stripsWith_47 : decode cX12_stripsWith 47 = .ok (.if_icmp .ne 7, 3) := by decide +kernel
theorem dX12_stripsWith_50 : decode cX12_stripsWith 50 = .ok (.iconst 1, 1) := by decide +kernel
theorem dX12_stripsWith_51 : decode cX12_stripsWith 51 = .ok (.goto 4, 3) := by decide +kernel
theorem dX12_stripsWith_54 : decode cX12_stripsWith 54 = .ok (.iconst 0, 1) := by decide +kernel
theorem dX12_stripsWith_55 : decode cX12_stripsWith 55 = .ok (.istore 4, 2) := by decide +kernel
theorem dX12_stripsWith_57 : decode cX12_stripsWith 57 = .ok (.iinc 5 1, 3) := by decide +kernel
theorem dX12_stripsWith_60 : decode cX12_stripsWith 60 = .ok (.goto (-42), 3) := by decide +kernel
theorem dX12_stripsWith_63 : decode cX12_stripsWith 63 = .ok (.iload_n 2, 1) := by decide +kernel
theorem dX12_stripsWith_64 : decode cX12_stripsWith 64 = .ok (.iload 4, 2) := by decide +kernel
theorem dX12_stripsWith_66 : decode cX12_stripsWith 66 = .ok (.ifCond .eq 7, 3) := by decide +kernel
theorem dX12_stripsWith_69 : decode cX12_stripsWith 69 = .ok (.iconst 1, 1) := by decide +kernel
theorem dX12_stripsWith_70 : decode cX12_stripsWith 70 = .ok (.goto 4, 3) := by decide +kernel
theorem dX12_stripsWith_73 : decode cX12_stripsWith 73 = .ok (.iconst 0, 1) := by decide +kernel
theorem dX12_stripsWith_74 : decode cX12_stripsWith 74 = .ok (.iadd, 1) := by decide +kernel
theorem dX12_stripsWith_75 : decode cX12_stripsWith 75 = .ok (.istore_n 2, 1) := by decide +kernel
theorem dX12_stripsWith_76 : decode cX12_stripsWith 76 = .ok (.iinc 3 1, 3) := by decide +kernel
theorem dX12_stripsWith_79 : decode cX12_stripsWith 79 = .ok (.goto (-75), 3) := by decide +kernel
theorem dX12_stripsWith_82 : decode cX12_stripsWith 82 = .ok (.iload_n 2, 1) := by decide +kernel
theorem dX12_stripsWith_83 : decode cX12_stripsWith 83 = .ok (.ireturn, 1) := by decide +kernel
theorem dX12_commonest_0 : decode cX12_commonest 0 = .ok (.iconst 0, 1) := by decide +kernel
theorem dX12_commonest_1 : decode cX12_commonest 1 = .ok (.istore_n 1, 1) := by decide +kernel
theorem dX12_commonest_2 : decode cX12_commonest 2 = .ok (.iconst 1, 1) := by decide +kernel
theorem dX12_commonest_3 : decode cX12_commonest 3 = .ok (.istore_n 2, 1) := by decide +kernel
theorem dX12_commonest_4 : decode cX12_commonest 4 = .ok (.iload_n 2, 1) := by decide +kernel
theorem dX12_commonest_5 : decode cX12_commonest 5 = .ok (.bipush 26, 2) := by decide +kernel
theorem dX12_commonest_7 : decode cX12_commonest 7 = .ok (.if_icmp .ge 28, 3) := by decide +kernel
theorem dX12_commonest_10 : decode cX12_commonest 10 = .ok (.aload_n 0, 1) := by decide +kernel
theorem dX12_commonest_11 : decode cX12_commonest 11 = .ok (.iload_n 2, 1) := by decide +kernel
theorem dX12_commonest_12 : decode cX12_commonest 12 = .ok (.invokevirtual 419, 3) := by decide +kernel
theorem dX12_commonest_15 : decode cX12_commonest 15 = .ok (.aload_n 0, 1) := by decide +kernel
theorem dX12_commonest_16 : decode cX12_commonest 16 = .ok (.iload_n 1, 1) := by decide +kernel
theorem dX12_commonest_17 : decode cX12_commonest 17 = .ok (.invokevirtual 419, 3) := by decide +kernel
theorem dX12_commonest_20 : decode cX12_commonest 20 = .ok (.if_icmp .le 7, 3) := by decide +kernel
theorem dX12_commonest_23 : decode cX12_commonest 23 = .ok (.iload_n 2, 1) := by decide +kernel
theorem dX12_commonest_24 : decode cX12_commonest 24 = .ok (.goto 4, 3) := by decide +kernel
theorem dX12_commonest_27 : decode cX12_commonest 27 = .ok (.iload_n 1, 1) := by decide +kernel
theorem dX12_commonest_28 : decode cX12_commonest 28 = .ok (.istore_n 1, 1) := by decide +kernel
theorem dX12_commonest_29 : decode cX12_commonest 29 = .ok (.iinc 2 1, 3) := by decide +kernel
theorem dX12_commonest_32 : decode cX12_commonest 32 = .ok (.goto (-28), 3) := by decide +kernel
theorem dX12_commonest_35 : decode cX12_commonest 35 = .ok (.aload_n 0, 1) := by decide +kernel
theorem dX12_commonest_36 : decode cX12_commonest 36 = .ok (.iload_n 1, 1) := by decide +kernel
theorem dX12_commonest_37 : decode cX12_commonest 37 = .ok (.invokevirtual 419, 3) := by decide +kernel
theorem dX12_commonest_40 : decode cX12_commonest 40 = .ok (.ifCond .ne 7, 3) := by decide +kernel
theorem dX12_commonest_43 : decode cX12_commonest 43 = .ok (.iconst (-1), 1) := by decide +kernel
theorem dX12_commonest_44 : decode cX12_commonest 44 = .ok (.goto 4, 3) := by decide +kernel
theorem dX12_commonest_47 : decode cX12_commonest 47 = .ok (.iload_n 1, 1) := by decide +kernel
theorem dX12_commonest_48 : decode cX12_commonest 48 = .ok (.ireturn, 1) := by decide +kernel
theorem dX12_shownOnes_0 : decode cX12_shownOnes 0 = .ok (.iconst 0, 1) := by decide +kernel
theorem dX12_shownOnes_1 : decode cX12_shownOnes 1 = .ok (.istore_n 1, 1) := by decide +kernel
theorem dX12_shownOnes_2 : decode cX12_shownOnes 2 = .ok (.iconst 0, 1) := by decide +kernel
theorem dX12_shownOnes_3 : decode cX12_shownOnes 3 = .ok (.istore_n 2, 1) := by decide +kernel
theorem dX12_shownOnes_4 : decode cX12_shownOnes 4 = .ok (.iload_n 2, 1) := by decide +kernel
theorem dX12_shownOnes_5 : decode cX12_shownOnes 5 = .ok (.aload_n 0, 1) := by decide +kernel
theorem dX12_shownOnes_6 : decode cX12_shownOnes 6 = .ok (.getfield 263, 3) := by decide +kernel
theorem dX12_shownOnes_9 : decode cX12_shownOnes 9 = .ok (.if_icmp .ge 33, 3) := by decide +kernel
theorem dX12_shownOnes_12 : decode cX12_shownOnes 12 = .ok (.iload_n 1, 1) := by decide +kernel
theorem dX12_shownOnes_13 : decode cX12_shownOnes 13 = .ok (.aload_n 0, 1) := by decide +kernel
theorem dX12_shownOnes_14 : decode cX12_shownOnes 14 = .ok (.iload_n 2, 1) := by decide +kernel
theorem dX12_shownOnes_15 : decode cX12_shownOnes 15 = .ok (.invokevirtual 304, 3) := by decide +kernel
theorem dX12_shownOnes_18 : decode cX12_shownOnes 18 = .ok (.bipush 26, 2) := by decide +kernel
theorem dX12_shownOnes_20 : decode cX12_shownOnes 20 = .ok (.if_icmp .ne 7, 3) := by decide +kernel
theorem dX12_shownOnes_23 : decode cX12_shownOnes 23 = .ok (.iconst 0, 1) := by decide +kernel
theorem dX12_shownOnes_24 : decode cX12_shownOnes 24 = .ok (.goto 10, 3) := by decide +kernel
theorem dX12_shownOnes_27 : decode cX12_shownOnes 27 = .ok (.iconst 1, 1) := by decide +kernel
theorem dX12_shownOnes_28 : decode cX12_shownOnes 28 = .ok (.aload_n 0, 1) := by decide +kernel
theorem dX12_shownOnes_29 : decode cX12_shownOnes 29 = .ok (.iload_n 2, 1) := by decide +kernel
theorem dX12_shownOnes_30 : decode cX12_shownOnes 30 = .ok (.invokevirtual 304, 3) := by decide +kernel
theorem dX12_shownOnes_33 : decode cX12_shownOnes 33 = .ok (.ishl, 1) := by decide +kernel
theorem dX12_shownOnes_34 : decode cX12_shownOnes 34 = .ok (.ior, 1) := by decide +kernel
theorem dX12_shownOnes_35 : decode cX12_shownOnes 35 = .ok (.istore_n 1, 1) := by decide +kernel
theorem dX12_shownOnes_36 : decode cX12_shownOnes 36 = .ok (.iinc 2 1, 3) := by decide +kernel
theorem dX12_shownOnes_39 : decode cX12_shownOnes 39 = .ok (.goto (-35), 3) := by decide +kernel
theorem dX12_shownOnes_42 : decode cX12_shownOnes 42 = .ok (.iload_n 1, 1) := by decide +kernel
theorem dX12_shownOnes_43 : decode cX12_shownOnes 43 = .ok (.ireturn, 1) := by decide +kernel
theorem dX12_twins_0 : decode cX12_twins 0 = .ok (.iconst 0, 1) := by decide +kernel
theorem dX12_twins_1 : decode cX12_twins 1 = .ok (.istore_n 1, 1) := by decide +kernel
theorem dX12_twins_2 : decode cX12_twins 2 = .ok (.iconst 0, 1) := by decide +kernel
theorem dX12_twins_3 : decode cX12_twins 3 = .ok (.istore_n 2, 1) := by decide +kernel
theorem dX12_twins_4 : decode cX12_twins 4 = .ok (.iload_n 2, 1) := by decide +kernel
theorem dX12_twins_5 : decode cX12_twins 5 = .ok (.aload_n 0, 1) := by decide +kernel
theorem dX12_twins_6 : decode cX12_twins 6 = .ok (.getfield 263, 3) := by decide +kernel
theorem dX12_twins_9 : decode cX12_twins 9 = .ok (.if_icmp .ge 53, 3) := by decide +kernel
theorem dX12_twins_12 : decode cX12_twins 12 = .ok (.iconst 0, 1) := by decide +kernel
theorem dX12_twins_13 : decode cX12_twins 13 = .ok (.istore_n 3, 1) := by decide +kernel
theorem dX12_twins_14 : decode cX12_twins 14 = .ok (.iload_n 3, 1) := by decide +kernel
theorem dX12_twins_15 : decode cX12_twins 15 = .ok (.iload_n 2, 1) := by decide +kernel
theorem dX12_twins_16 : decode cX12_twins 16 = .ok (.if_icmp .ge 40, 3) := by decide +kernel
theorem dX12_twins_19 : decode cX12_twins 19 = .ok (.iload_n 1, 1) := by decide +kernel
theorem dX12_twins_20 : decode cX12_twins 20 = .ok (.aload_n 0, 1) := by decide +kernel
theorem dX12_twins_21 : decode cX12_twins 21 = .ok (.iload_n 2, 1) := by decide +kernel
theorem dX12_twins_22 : decode cX12_twins 22 = .ok (.invokevirtual 304, 3) := by decide +kernel
theorem dX12_twins_25 : decode cX12_twins 25 = .ok (.bipush 26, 2) := by decide +kernel
theorem dX12_twins_27 : decode cX12_twins 27 = .ok (.if_icmp .eq 20, 3) := by decide +kernel
theorem dX12_twins_30 : decode cX12_twins 30 = .ok (.aload_n 0, 1) := by decide +kernel
theorem dX12_twins_31 : decode cX12_twins 31 = .ok (.iload_n 2, 1) := by decide +kernel
theorem dX12_twins_32 : decode cX12_twins 32 = .ok (.invokevirtual 304, 3) := by decide +kernel
theorem dX12_twins_35 : decode cX12_twins 35 = .ok (.aload_n 0, 1) := by decide +kernel
theorem dX12_twins_36 : decode cX12_twins 36 = .ok (.iload_n 3, 1) := by decide +kernel
theorem dX12_twins_37 : decode cX12_twins 37 = .ok (.invokevirtual 304, 3) := by decide +kernel
theorem dX12_twins_40 : decode cX12_twins 40 = .ok (.if_icmp .ne 7, 3) := by decide +kernel
theorem dX12_twins_43 : decode cX12_twins 43 = .ok (.iconst 1, 1) := by decide +kernel
theorem dX12_twins_44 : decode cX12_twins 44 = .ok (.goto 4, 3) := by decide +kernel
theorem dX12_twins_47 : decode cX12_twins 47 = .ok (.iconst 0, 1) := by decide +kernel
theorem dX12_twins_48 : decode cX12_twins 48 = .ok (.iadd, 1) := by decide +kernel
theorem dX12_twins_49 : decode cX12_twins 49 = .ok (.istore_n 1, 1) := by decide +kernel
theorem dX12_twins_50 : decode cX12_twins 50 = .ok (.iinc 3 1, 3) := by decide +kernel
theorem dX12_twins_53 : decode cX12_twins 53 = .ok (.goto (-39), 3) := by decide +kernel
theorem dX12_twins_56 : decode cX12_twins 56 = .ok (.iinc 2 1, 3) := by decide +kernel
theorem dX12_twins_59 : decode cX12_twins 59 = .ok (.goto (-55), 3) := by decide +kernel
theorem dX12_twins_62 : decode cX12_twins 62 = .ok (.iload_n 1, 1) := by decide +kernel
theorem dX12_twins_63 : decode cX12_twins 63 = .ok (.ireturn, 1) := by decide +kernel
theorem dX12_onesWho_0 : decode cX12_onesWho 0 = .ok (.iconst 0, 1) := by decide +kernel
theorem dX12_onesWho_1 : decode cX12_onesWho 1 = .ok (.istore_n 2, 1) := by decide +kernel
theorem dX12_onesWho_2 : decode cX12_onesWho 2 = .ok (.iconst 0, 1) := by decide +kernel
theorem dX12_onesWho_3 : decode cX12_onesWho 3 = .ok (.istore_n 3, 1) := by decide +kernel
theorem dX12_onesWho_4 : decode cX12_onesWho 4 = .ok (.iload_n 3, 1) := by decide +kernel
theorem dX12_onesWho_5 : decode cX12_onesWho 5 = .ok (.aload_n 0, 1) := by decide +kernel
theorem dX12_onesWho_6 : decode cX12_onesWho 6 = .ok (.getfield 263, 3) := by decide +kernel
theorem dX12_onesWho_9 : decode cX12_onesWho 9 = .ok (.if_icmp .ge 106, 3) := by decide +kernel
theorem dX12_onesWho_12 : decode cX12_onesWho 12 = .ok (.iload_n 1, 1) := by decide +kernel
theorem dX12_onesWho_13 : decode cX12_onesWho 13 = .ok (.ifCond .ne 21, 3) := by decide +kernel
theorem dX12_onesWho_16 : decode cX12_onesWho 16 = .ok (.aload_n 0, 1) := by decide +kernel
theorem dX12_onesWho_17 : decode cX12_onesWho 17 = .ok (.iload_n 3, 1) := by decide +kernel
theorem dX12_onesWho_18 : decode cX12_onesWho 18 = .ok (.iconst 1, 1) := by decide +kernel
theorem dX12_onesWho_19 : decode cX12_onesWho 19 = .ok (.invokevirtual 254, 3) := by decide +kernel
theorem dX12_onesWho_22 : decode cX12_onesWho 22 = .ok (.iconst 1, 1) := by decide +kernel
theorem dX12_onesWho_23 : decode cX12_onesWho 23 = .ok (.if_icmp .ne 7, 3) := by decide +kernel
theorem dX12_onesWho_26 : decode cX12_onesWho 26 = .ok (.iconst 1, 1) := by decide +kernel
theorem dX12_onesWho_27 : decode cX12_onesWho 27 = .ok (.goto 65, 3) := by decide +kernel
theorem dX12_onesWho_30 : decode cX12_onesWho 30 = .ok (.iconst 0, 1) := by decide +kernel
theorem dX12_onesWho_31 : decode cX12_onesWho 31 = .ok (.goto 61, 3) := by decide +kernel
theorem dX12_onesWho_34 : decode cX12_onesWho 34 = .ok (.iload_n 1, 1) := by decide +kernel
theorem dX12_onesWho_35 : decode cX12_onesWho 35 = .ok (.iconst 1, 1) := by decide +kernel
theorem dX12_onesWho_36 : decode cX12_onesWho 36 = .ok (.if_icmp .ne 24, 3) := by decide +kernel
theorem dX12_onesWho_39 : decode cX12_onesWho 39 = .ok (.aload_n 0, 1) := by decide +kernel
theorem dX12_onesWho_40 : decode cX12_onesWho 40 = .ok (.aload_n 0, 1) := by decide +kernel
theorem dX12_onesWho_41 : decode cX12_onesWho 41 = .ok (.iload_n 3, 1) := by decide +kernel
theorem dX12_onesWho_42 : decode cX12_onesWho 42 = .ok (.iconst 3, 1) := by decide +kernel
theorem dX12_onesWho_43 : decode cX12_onesWho 43 = .ok (.invokevirtual 254, 3) := by decide +kernel
theorem dX12_onesWho_46 : decode cX12_onesWho 46 = .ok (.invokevirtual 310, 3) := by decide +kernel
theorem dX12_onesWho_49 : decode cX12_onesWho 49 = .ok (.ifCond .ne 7, 3) := by decide +kernel
theorem dX12_onesWho_52 : decode cX12_onesWho 52 = .ok (.iconst 1, 1) := by decide +kernel
theorem dX12_onesWho_53 : decode cX12_onesWho 53 = .ok (.goto 39, 3) := by decide +kernel
theorem dX12_onesWho_56 : decode cX12_onesWho 56 = .ok (.iconst 0, 1) := by decide +kernel
theorem dX12_onesWho_57 : decode cX12_onesWho 57 = .ok (.goto 35, 3) := by decide +kernel
theorem dX12_onesWho_60 : decode cX12_onesWho 60 = .ok (.aload_n 0, 1) := by decide +kernel
theorem dX12_onesWho_61 : decode cX12_onesWho 61 = .ok (.iload_n 3, 1) := by decide +kernel
theorem dX12_onesWho_62 : decode cX12_onesWho 62 = .ok (.aload_n 0, 1) := by decide +kernel
theorem dX12_onesWho_63 : decode cX12_onesWho 63 = .ok (.iload_n 3, 1) := by decide +kernel
theorem dX12_onesWho_64 : decode cX12_onesWho 64 = .ok (.iconst 2, 1) := by decide +kernel
theorem dX12_onesWho_65 : decode cX12_onesWho 65 = .ok (.invokevirtual 254, 3) := by decide +kernel
theorem dX12_onesWho_68 : decode cX12_onesWho 68 = .ok (.aload_n 0, 1) := by decide +kernel
theorem dX12_onesWho_69 : decode cX12_onesWho 69 = .ok (.getfield 52, 3) := by decide +kernel
theorem dX12_onesWho_72 : decode cX12_onesWho 72 = .ok (.bipush 19, 2) := by decide +kernel
theorem dX12_onesWho_74 : decode cX12_onesWho 74 = .ok (.iaload, 1) := by decide +kernel
theorem dX12_onesWho_75 : decode cX12_onesWho 75 = .ok (.invokevirtual 298, 3) := by decide +kernel
theorem dX12_onesWho_78 : decode cX12_onesWho 78 = .ok (.aload_n 0, 1) := by decide +kernel
theorem dX12_onesWho_79 : decode cX12_onesWho 79 = .ok (.iload_n 3, 1) := by decide +kernel
theorem dX12_onesWho_80 : decode cX12_onesWho 80 = .ok (.iconst 2, 1) := by decide +kernel
theorem dX12_onesWho_81 : decode cX12_onesWho 81 = .ok (.invokevirtual 254, 3) := by decide +kernel
theorem dX12_onesWho_84 : decode cX12_onesWho 84 = .ok (.if_icmp .ne 7, 3) := by decide +kernel
theorem dX12_onesWho_87 : decode cX12_onesWho 87 = .ok (.iconst 1, 1) := by decide +kernel
theorem dX12_onesWho_88 : decode cX12_onesWho 88 = .ok (.goto 4, 3) := by decide +kernel
theorem dX12_onesWho_91 : decode cX12_onesWho 91 = .ok (.iconst 0, 1) := by decide +kernel
theorem dX12_onesWho_92 : decode cX12_onesWho 92 = .ok (.istore 4, 2) := by decide +kernel
theorem dX12_onesWho_94 : decode cX12_onesWho 94 = .ok (.iload_n 2, 1) := by decide +kernel
theorem dX12_onesWho_95 : decode cX12_onesWho 95 = .ok (.iload 4, 2) := by decide +kernel
theorem dX12_onesWho_97 : decode cX12_onesWho 97 = .ok (.ifCond .eq 9, 3) := by decide +kernel
theorem dX12_onesWho_100 : decode cX12_onesWho 100 = .ok (.iconst 1, 1) := by decide +kernel
theorem dX12_onesWho_101 : decode cX12_onesWho 101 = .ok (.iload_n 3, 1) := by decide +kernel
theorem dX12_onesWho_102 : decode cX12_onesWho 102 = .ok (.ishl, 1) := by decide +kernel
theorem dX12_onesWho_103 : decode cX12_onesWho 103 = .ok (.goto 4, 3) := by decide +kernel
theorem dX12_onesWho_106 : decode cX12_onesWho 106 = .ok (.iconst 0, 1) := by decide +kernel
theorem dX12_onesWho_107 : decode cX12_onesWho 107 = .ok (.ior, 1) := by decide +kernel
theorem dX12_onesWho_108 : decode cX12_onesWho 108 = .ok (.istore_n 2, 1) := by decide +kernel
theorem dX12_onesWho_109 : decode cX12_onesWho 109 = .ok (.iinc 3 1, 3) := by decide +kernel
theorem dX12_onesWho_112 : decode cX12_onesWho 112 = .ok (.goto (-108), 3) := by decide +kernel
theorem dX12_onesWho_115 : decode cX12_onesWho 115 = .ok (.iload_n 2, 1) := by decide +kernel
theorem dX12_onesWho_116 : decode cX12_onesWho 116 = .ok (.ireturn, 1) := by decide +kernel
theorem dX12_orderRow_0 : decode cX12_orderRow 0 = .ok (.iconst 0, 1) := by decide +kernel
theorem dX12_orderRow_1 : decode cX12_orderRow 1 = .ok (.istore_n 1, 1) := by decide +kernel
theorem dX12_orderRow_2 : decode cX12_orderRow 2 = .ok (.iconst 0, 1) := by decide +kernel
theorem dX12_orderRow_3 : decode cX12_orderRow 3 = .ok (.istore_n 2, 1) := by decide +kernel
theorem dX12_orderRow_4 : decode cX12_orderRow 4 = .ok (.iload_n 2, 1) := by decide +kernel
theorem dX12_orderRow_5 : decode cX12_orderRow 5 = .ok (.bipush 16, 2) := by decide +kernel
theorem dX12_orderRow_7 : decode cX12_orderRow 7 = .ok (.if_icmp .ge 46, 3) := by decide +kernel
theorem dX12_orderRow_10 : decode cX12_orderRow 10 = .ok (.iconst 0, 1) := by decide +kernel
theorem dX12_orderRow_11 : decode cX12_orderRow 11 = .ok (.istore_n 3, 1) := by decide +kernel
theorem dX12_orderRow_12 : decode cX12_orderRow 12 = .ok (.iload_n 3, 1) := by decide +kernel
theorem dX12_orderRow_13 : decode cX12_orderRow 13 = .ok (.aload_n 0, 1) := by decide +kernel
theorem dX12_orderRow_14 : decode cX12_orderRow 14 = .ok (.getfield 263, 3) := by decide +kernel
theorem dX12_orderRow_17 : decode cX12_orderRow 17 = .ok (.if_icmp .ge 30, 3) := by decide +kernel
theorem dX12_orderRow_20 : decode cX12_orderRow 20 = .ok (.aload_n 0, 1) := by decide +kernel
theorem dX12_orderRow_21 : decode cX12_orderRow 21 = .ok (.iload_n 3, 1) := by decide +kernel
theorem dX12_orderRow_22 : decode cX12_orderRow 22 = .ok (.iconst 2, 1) := by decide +kernel
theorem dX12_orderRow_23 : decode cX12_orderRow 23 = .ok (.invokevirtual 254, 3) := by decide +kernel
theorem dX12_orderRow_26 : decode cX12_orderRow 26 = .ok (.iload_n 2, 1) := by decide +kernel
theorem dX12_orderRow_27 : decode cX12_orderRow 27 = .ok (.if_icmp .ne 12, 3) := by decide +kernel
theorem dX12_orderRow_30 : decode cX12_orderRow 30 = .ok (.bipush 10, 2) := by decide +kernel
theorem dX12_orderRow_32 : decode cX12_orderRow 32 = .ok (.iload_n 1, 1) := by decide +kernel
theorem dX12_orderRow_33 : decode cX12_orderRow 33 = .ok (.imul, 1) := by decide +kernel
theorem dX12_orderRow_34 : decode cX12_orderRow 34 = .ok (.iload_n 3, 1) := by decide +kernel
theorem dX12_orderRow_35 : decode cX12_orderRow 35 = .ok (.iadd, 1) := by decide +kernel
theorem dX12_orderRow_36 : decode cX12_orderRow 36 = .ok (.goto 4, 3) := by decide +kernel
theorem dX12_orderRow_39 : decode cX12_orderRow 39 = .ok (.iload_n 1, 1) := by decide +kernel
theorem dX12_orderRow_40 : decode cX12_orderRow 40 = .ok (.istore_n 1, 1) := by decide +kernel
theorem dX12_orderRow_41 : decode cX12_orderRow 41 = .ok (.iinc 3 1, 3) := by decide +kernel
theorem dX12_orderRow_44 : decode cX12_orderRow 44 = .ok (.goto (-32), 3) := by decide +kernel
theorem dX12_orderRow_47 : decode cX12_orderRow 47 = .ok (.iinc 2 1, 3) := by decide +kernel
theorem dX12_orderRow_50 : decode cX12_orderRow 50 = .ok (.goto (-46), 3) := by decide +kernel
theorem dX12_orderRow_53 : decode cX12_orderRow 53 = .ok (.iload_n 1, 1) := by decide +kernel
theorem dX12_orderRow_54 : decode cX12_orderRow 54 = .ok (.ireturn, 1) := by decide +kernel
theorem dX12_most_0 : decode cX12_most 0 = .ok (.aload_n 0, 1) := by decide +kernel
theorem dX12_most_1 : decode cX12_most 1 = .ok (.getfield 263, 3) := by decide +kernel
theorem dX12_most_4 : decode cX12_most 4 = .ok (.ifCond .eq 13, 3) := by decide +kernel
theorem dX12_most_7 : decode cX12_most 7 = .ok (.iload_n 1, 1) := by decide +kernel
theorem dX12_most_8 : decode cX12_most 8 = .ok (.iconst 0, 1) := by decide +kernel
theorem dX12_most_9 : decode cX12_most 9 = .ok (.bipush 9, 2) := by decide +kernel
theorem dX12_most_11 : decode cX12_most 11 = .ok (.invokestatic 208, 3) := by decide +kernel
theorem dX12_most_14 : decode cX12_most 14 = .ok (.ifCond .ne 5, 3) := by decide +kernel
theorem dX12_most_17 : decode cX12_most 17 = .ok (.iconst (-1), 1) := by decide +kernel
theorem dX12_most_18 : decode cX12_most 18 = .ok (.ireturn, 1) := by decide +kernel
theorem dX12_most_19 : decode cX12_most 19 = .ok (.iload_n 1, 1) := by decide +kernel
theorem dX12_most_20 : decode cX12_most 20 = .ok (.tableswitch 112 0 9 #[56, 62, 68, 73, 78, 112, 112, 112, 83, 88], 56) := by decide +kernel
theorem dX12_most_76 : decode cX12_most 76 = .ok (.aload_n 0, 1) := by decide +kernel
theorem dX12_most_77 : decode cX12_most 77 = .ok (.iconst 1, 1) := by decide +kernel
theorem dX12_most_78 : decode cX12_most 78 = .ok (.invokevirtual 422, 3) := by decide +kernel
theorem dX12_most_81 : decode cX12_most 81 = .ok (.ireturn, 1) := by decide +kernel
theorem dX12_most_82 : decode cX12_most 82 = .ok (.aload_n 0, 1) := by decide +kernel
theorem dX12_most_83 : decode cX12_most 83 = .ok (.iconst 0, 1) := by decide +kernel
theorem dX12_most_84 : decode cX12_most 84 = .ok (.invokevirtual 422, 3) := by decide +kernel
theorem dX12_most_87 : decode cX12_most 87 = .ok (.ireturn, 1) := by decide +kernel
theorem dX12_most_88 : decode cX12_most 88 = .ok (.aload_n 0, 1) := by decide +kernel
theorem dX12_most_89 : decode cX12_most 89 = .ok (.invokevirtual 426, 3) := by decide +kernel
theorem dX12_most_92 : decode cX12_most 92 = .ok (.ireturn, 1) := by decide +kernel
theorem dX12_most_93 : decode cX12_most 93 = .ok (.aload_n 0, 1) := by decide +kernel
theorem dX12_most_94 : decode cX12_most 94 = .ok (.invokevirtual 429, 3) := by decide +kernel
theorem dX12_most_97 : decode cX12_most 97 = .ok (.ireturn, 1) := by decide +kernel
theorem dX12_most_98 : decode cX12_most 98 = .ok (.aload_n 0, 1) := by decide +kernel
theorem dX12_most_99 : decode cX12_most 99 = .ok (.invokevirtual 432, 3) := by decide +kernel
theorem dX12_most_102 : decode cX12_most 102 = .ok (.ireturn, 1) := by decide +kernel
theorem dX12_most_103 : decode cX12_most 103 = .ok (.aload_n 0, 1) := by decide +kernel
theorem dX12_most_104 : decode cX12_most 104 = .ok (.invokevirtual 435, 3) := by decide +kernel
theorem dX12_most_107 : decode cX12_most 107 = .ok (.ireturn, 1) := by decide +kernel
theorem dX12_most_108 : decode cX12_most 108 = .ok (.aload_n 0, 1) := by decide +kernel
theorem dX12_most_109 : decode cX12_most 109 = .ok (.getfield 52, 3) := by decide +kernel
theorem dX12_most_112 : decode cX12_most 112 = .ok (.bipush 16, 2) := by decide +kernel
theorem dX12_most_114 : decode cX12_most 114 = .ok (.iaload, 1) := by decide +kernel
theorem dX12_most_115 : decode cX12_most 115 = .ok (.aload_n 0, 1) := by decide +kernel
theorem dX12_most_116 : decode cX12_most 116 = .ok (.getfield 52, 3) := by decide +kernel
theorem dX12_most_119 : decode cX12_most 119 = .ok (.bipush 19, 2) := by decide +kernel
theorem dX12_most_121 : decode cX12_most 121 = .ok (.iaload, 1) := by decide +kernel
theorem dX12_most_122 : decode cX12_most 122 = .ok (.aload_n 0, 1) := by decide +kernel
theorem dX12_most_123 : decode cX12_most 123 = .ok (.getfield 52, 3) := by decide +kernel
theorem dX12_most_126 : decode cX12_most 126 = .ok (.bipush 16, 2) := by decide +kernel
theorem dX12_most_128 : decode cX12_most 128 = .ok (.iaload, 1) := by decide +kernel
theorem dX12_most_129 : decode cX12_most 129 = .ok (.irem, 1) := by decide +kernel
theorem dX12_most_130 : decode cX12_most 130 = .ok (.isub, 1) := by decide +kernel
theorem dX12_most_131 : decode cX12_most 131 = .ok (.ireturn, 1) := by decide +kernel
theorem dX12_most_132 : decode cX12_most 132 = .ok (.aload_n 0, 1) := by decide +kernel
theorem dX12_most_133 : decode cX12_most 133 = .ok (.iload_n 1, 1) := by decide +kernel
theorem dX12_most_134 : decode cX12_most 134 = .ok (.iconst 5, 1) := by decide +kernel
theorem dX12_most_135 : decode cX12_most 135 = .ok (.isub, 1) := by decide +kernel
theorem dX12_most_136 : decode cX12_most 136 = .ok (.invokevirtual 438, 3) := by decide +kernel
theorem dX12_most_139 : decode cX12_most 139 = .ok (.ireturn, 1) := by decide +kernel
theorem dX12_image_0 : decode cX12_image 0 = .ok (.aload_n 0, 1) := by decide +kernel
theorem dX12_image_1 : decode cX12_image 1 = .ok (.getfield 263, 3) := by decide +kernel
theorem dX12_image_4 : decode cX12_image 4 = .ok (.ifCond .ne 5, 3) := by decide +kernel
theorem dX12_image_7 : decode cX12_image 7 = .ok (.iconst (-1), 1) := by decide +kernel
theorem dX12_image_8 : decode cX12_image 8 = .ok (.ireturn, 1) := by decide +kernel
theorem dX12_image_9 : decode cX12_image 9 = .ok (.iconst 0, 1) := by decide +kernel
theorem dX12_image_10 : decode cX12_image 10 = .ok (.istore_n 1, 1) := by decide +kernel
theorem dX12_image_11 : decode cX12_image 11 = .ok (.iload_n 1, 1) := by decide +kernel
theorem dX12_image_12 : decode cX12_image 12 = .ok (.sipush 261, 3) := by decide +kernel
theorem dX12_image_15 : decode cX12_image 15 = .ok (.if_icmp .ge 21, 3) := by decide +kernel
theorem dX12_image_18 : decode cX12_image 18 = .ok (.aload_n 0, 1) := by decide +kernel
theorem dX12_image_19 : decode cX12_image 19 = .ok (.getfield 90, 3) := by decide +kernel
theorem dX12_image_22 : decode cX12_image 22 = .ok (.iload_n 1, 1) := by decide +kernel
theorem dX12_image_23 : decode cX12_image 23 = .ok (.aload_n 0, 1) := by decide +kernel
theorem dX12_image_24 : decode cX12_image 24 = .ok (.getfield 52, 3) := by decide +kernel
theorem dX12_image_27 : decode cX12_image 27 = .ok (.iload_n 1, 1) := by decide +kernel
theorem dX12_image_28 : decode cX12_image 28 = .ok (.iaload, 1) := by decide +kernel
theorem dX12_image_29 : decode cX12_image 29 = .ok (.iastore, 1) := by decide +kernel
theorem dX12_image_30 : decode cX12_image 30 = .ok (.iinc 1 1, 3) := by decide +kernel
theorem dX12_image_33 : decode cX12_image 33 = .ok (.goto (-22), 3) := by decide +kernel
theorem dX12_image_36 : decode cX12_image 36 = .ok (.aload_n 0, 1) := by decide +kernel
theorem dX12_image_37 : decode cX12_image 37 = .ok (.iconst 1, 1) := by decide +kernel
theorem dX12_image_38 : decode cX12_image 38 = .ok (.putfield 275, 3) := by decide +kernel
theorem dX12_image_41 : decode cX12_image 41 = .ok (.aload_n 0, 1) := by decide +kernel
theorem dX12_image_42 : decode cX12_image 42 = .ok (.getfield 52, 3) := by decide +kernel
theorem dX12_image_45 : decode cX12_image 45 = .ok (.bipush 19, 2) := by decide +kernel
theorem dX12_image_47 : decode cX12_image 47 = .ok (.iaload, 1) := by decide +kernel
theorem dX12_image_48 : decode cX12_image 48 = .ok (.ireturn, 1) := by decide +kernel
theorem dX12_back_0 : decode cX12_back 0 = .ok (.aload_n 0, 1) := by decide +kernel
theorem dX12_back_1 : decode cX12_back 1 = .ok (.getfield 275, 3) := by decide +kernel
theorem dX12_back_4 : decode cX12_back 4 = .ok (.ifCond .ne 5, 3) := by decide +kernel
theorem dX12_back_7 : decode cX12_back 7 = .ok (.iconst (-1), 1) := by decide +kernel
theorem dX12_back_8 : decode cX12_back 8 = .ok (.ireturn, 1) := by decide +kernel
theorem dX12_back_9 : decode cX12_back 9 = .ok (.iconst 0, 1) := by decide +kernel
theorem dX12_back_10 : decode cX12_back 10 = .ok (.istore_n 1, 1) := by decide +kernel
theorem dX12_back_11 : decode cX12_back 11 = .ok (.iload_n 1, 1) := by decide +kernel
theorem dX12_back_12 : decode cX12_back 12 = .ok (.sipush 261, 3) := by decide +kernel
theorem dX12_back_15 : decode cX12_back 15 = .ok (.if_icmp .ge 21, 3) := by decide +kernel
theorem dX12_back_18 : decode cX12_back 18 = .ok (.aload_n 0, 1) := by decide +kernel
theorem dX12_back_19 : decode cX12_back 19 = .ok (.getfield 52, 3) := by decide +kernel
theorem dX12_back_22 : decode cX12_back 22 = .ok (.iload_n 1, 1) := by decide +kernel
theorem dX12_back_23 : decode cX12_back 23 = .ok (.aload_n 0, 1) := by decide +kernel
theorem dX12_back_24 : decode cX12_back 24 = .ok (.getfield 90, 3) := by decide +kernel
theorem dX12_back_27 : decode cX12_back 27 = .ok (.iload_n 1, 1) := by decide +kernel
theorem dX12_back_28 : decode cX12_back 28 = .ok (.iaload, 1) := by decide +kernel
theorem dX12_back_29 : decode cX12_back 29 = .ok (.iastore, 1) := by decide +kernel
theorem dX12_back_30 : decode cX12_back 30 = .ok (.iinc 1 1, 3) := by decide +kernel
theorem dX12_back_33 : decode cX12_back 33 = .ok (.goto (-22), 3) := by decide +kernel
theorem dX12_back_36 : decode cX12_back 36 = .ok (.aload_n 0, 1) := by decide +kernel
theorem dX12_back_37 : decode cX12_back 37 = .ok (.iconst 0, 1) := by decide +kernel
theorem dX12_back_38 : decode cX12_back 38 = .ok (.putfield 272, 3) := by decide +kernel
theorem dX12_back_41 : decode cX12_back 41 = .ok (.aload_n 0, 1) := by decide +kernel
theorem dX12_back_42 : decode cX12_back 42 = .ok (.getfield 52, 3) := by decide +kernel
theorem dX12_back_45 : decode cX12_back 45 = .ok (.bipush 19, 2) := by decide +kernel
theorem dX12_back_47 : decode cX12_back 47 = .ok (.iaload, 1) := by decide +kernel
theorem dX12_back_48 : decode cX12_back 48 = .ok (.ireturn, 1) := by decide +kernel
theorem dX12_count_0 : decode cX12_count 0 = .ok (.iload_n 1, 1) := by decide +kernel
theorem dX12_count_1 : decode cX12_count 1 = .ok (.tableswitch 111 0 9 #[55, 60, 65, 70, 75, 80, 88, 93, 98, 106], 55) := by decide +kernel
theorem dX12_count_56 : decode cX12_count 56 = .ok (.aload_n 0, 1) := by decide +kernel
theorem dX12_count_57 : decode cX12_count 57 = .ok (.getfield 263, 3) := by decide +kernel
theorem dX12_count_60 : decode cX12_count 60 = .ok (.ireturn, 1) := by decide +kernel
theorem dX12_count_61 : decode cX12_count 61 = .ok (.aload_n 0, 1) := by decide +kernel
theorem dX12_count_62 : decode cX12_count 62 = .ok (.getfield 282, 3) := by decide +kernel
theorem dX12_count_65 : decode cX12_count 65 = .ok (.ireturn, 1) := by decide +kernel
theorem dX12_count_66 : decode cX12_count 66 = .ok (.aload_n 0, 1) := by decide +kernel
theorem dX12_count_67 : decode cX12_count 67 = .ok (.getfield 251, 3) := by decide +kernel
theorem dX12_count_70 : decode cX12_count 70 = .ok (.ireturn, 1) := by decide +kernel
theorem dX12_count_71 : decode cX12_count 71 = .ok (.aload_n 0, 1) := by decide +kernel
theorem dX12_count_72 : decode cX12_count 72 = .ok (.getfield 100, 3) := by decide +kernel
theorem dX12_count_75 : decode cX12_count 75 = .ok (.ireturn, 1) := by decide +kernel
theorem dX12_count_76 : decode cX12_count 76 = .ok (.aload_n 0, 1) := by decide +kernel
theorem dX12_count_77 : decode cX12_count 77 = .ok (.getfield 58, 3) := by decide +kernel
theorem dX12_count_80 : decode cX12_count 80 = .ok (.ireturn, 1) := by decide +kernel
theorem dX12_count_81 : decode cX12_count 81 = .ok (.aload_n 0, 1) := by decide +kernel
theorem dX12_count_82 : decode cX12_count 82 = .ok (.getfield 52, 3) := by decide +kernel
theorem dX12_count_85 : decode cX12_count 85 = .ok (.bipush 19, 2) := by decide +kernel
theorem dX12_count_87 : decode cX12_count 87 = .ok (.iaload, 1) := by decide +kernel
theorem dX12_count_88 : decode cX12_count 88 = .ok (.ireturn, 1) := by decide +kernel
theorem dX12_count_89 : decode cX12_count 89 = .ok (.aload_n 0, 1) := by decide +kernel
theorem dX12_count_90 : decode cX12_count 90 = .ok (.getfield 62, 3) := by decide +kernel
theorem dX12_count_93 : decode cX12_count 93 = .ok (.ireturn, 1) := by decide +kernel
theorem dX12_count_94 : decode cX12_count 94 = .ok (.aload_n 0, 1) := by decide +kernel
theorem dX12_count_95 : decode cX12_count 95 = .ok (.getfield 269, 3) := by decide +kernel
theorem dX12_count_98 : decode cX12_count 98 = .ok (.ireturn, 1) := by decide +kernel
theorem dX12_count_99 : decode cX12_count 99 = .ok (.aload_n 0, 1) := by decide +kernel
theorem dX12_count_100 : decode cX12_count 100 = .ok (.getfield 52, 3) := by decide +kernel
theorem dX12_count_103 : decode cX12_count 103 = .ok (.bipush 20, 2) := by decide +kernel
theorem dX12_count_105 : decode cX12_count 105 = .ok (.iaload, 1) := by decide +kernel
theorem dX12_count_106 : decode cX12_count 106 = .ok (.ireturn, 1) := by decide +kernel
theorem dX12_count_107 : decode cX12_count 107 = .ok (.aload_n 0, 1) := by decide +kernel
theorem dX12_count_108 : decode cX12_count 108 = .ok (.getfield 272, 3) := by decide +kernel
theorem dX12_count_111 : decode cX12_count 111 = .ok (.ireturn, 1) := by decide +kernel
theorem dX12_count_112 : decode cX12_count 112 = .ok (.ldc_w 345, 3) := by decide +kernel
theorem dX12_count_115 : decode cX12_count 115 = .ok (.ireturn, 1) := by decide +kernel
