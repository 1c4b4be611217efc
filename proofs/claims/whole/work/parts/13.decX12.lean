theorem dX12_init_0 : decode cX12_init 0 = .ok (.aload_n 0, 1) := by decide +kernel
theorem dX12_init_1 : decode cX12_init 1 = .ok (.invokespecial 1, 3) := by decide +kernel
theorem dX12_init_4 : decode cX12_init 4 = .ok (.aload_n 0, 1) := by decide +kernel
theorem dX12_init_5 : decode cX12_init 5 = .ok (.bipush 7, 2) := by decide +kernel
theorem dX12_init_7 : decode cX12_init 7 = .ok (.newarray .int, 2) := by decide +kernel
theorem dX12_init_9 : decode cX12_init 9 = .ok (.putfield 7, 3) := by decide +kernel
theorem dX12_init_12 : decode cX12_init 12 = .ok (.aload_n 0, 1) := by decide +kernel
theorem dX12_init_13 : decode cX12_init 13 = .ok (.sipush 5550, 3) := by decide +kernel
theorem dX12_init_16 : decode cX12_init 16 = .ok (.newarray .int, 2) := by decide +kernel
theorem dX12_init_18 : decode cX12_init 18 = .ok (.putfield 13, 3) := by decide +kernel
theorem dX12_init_21 : decode cX12_init 21 = .ok (.aload_n 0, 1) := by decide +kernel
theorem dX12_init_22 : decode cX12_init 22 = .ok (.sipush 11100, 3) := by decide +kernel
theorem dX12_init_25 : decode cX12_init 25 = .ok (.newarray .int, 2) := by decide +kernel
theorem dX12_init_27 : decode cX12_init 27 = .ok (.putfield 16, 3) := by decide +kernel
theorem dX12_init_30 : decode cX12_init 30 = .ok (.aload_n 0, 1) := by decide +kernel
theorem dX12_init_31 : decode cX12_init 31 = .ok (.iconst 2, 1) := by decide +kernel
theorem dX12_init_32 : decode cX12_init 32 = .ok (.newarray .boolean, 2) := by decide +kernel
theorem dX12_init_34 : decode cX12_init 34 = .ok (.putfield 19, 3) := by decide +kernel
theorem dX12_init_37 : decode cX12_init 37 = .ok (.aload_n 0, 1) := by decide +kernel
theorem dX12_init_38 : decode cX12_init 38 = .ok (.sipush 400, 3) := by decide +kernel
theorem dX12_init_41 : decode cX12_init 41 = .ok (.newarray .int, 2) := by decide +kernel
theorem dX12_init_43 : decode cX12_init 43 = .ok (.putfield 23, 3) := by decide +kernel
theorem dX12_init_46 : decode cX12_init 46 = .ok (.aload_n 0, 1) := by decide +kernel
theorem dX12_init_47 : decode cX12_init 47 = .ok (.iconst (-1), 1) := by decide +kernel
theorem dX12_init_48 : decode cX12_init 48 = .ok (.putfield 26, 3) := by decide +kernel
theorem dX12_init_51 : decode cX12_init 51 = .ok (.aload_n 0, 1) := by decide +kernel
theorem dX12_init_52 : decode cX12_init 52 = .ok (.bipush 96, 2) := by decide +kernel
theorem dX12_init_54 : decode cX12_init 54 = .ok (.newarray .int, 2) := by decide +kernel
theorem dX12_init_56 : decode cX12_init 56 = .ok (.putfield 30, 3) := by decide +kernel
theorem dX12_init_59 : decode cX12_init 59 = .ok (.aload_n 0, 1) := by decide +kernel
theorem dX12_init_60 : decode cX12_init 60 = .ok (.sipush 400, 3) := by decide +kernel
theorem dX12_init_63 : decode cX12_init 63 = .ok (.newarray .int, 2) := by decide +kernel
theorem dX12_init_65 : decode cX12_init 65 = .ok (.putfield 33, 3) := by decide +kernel
theorem dX12_init_68 : decode cX12_init 68 = .ok (.aload_n 0, 1) := by decide +kernel
theorem dX12_init_69 : decode cX12_init 69 = .ok (.sipush 400, 3) := by decide +kernel
theorem dX12_init_72 : decode cX12_init 72 = .ok (.newarray .int, 2) := by decide +kernel
theorem dX12_init_74 : decode cX12_init 74 = .ok (.putfield 36, 3) := by decide +kernel
theorem dX12_init_77 : decode cX12_init 77 = .ok (.aload_n 0, 1) := by decide +kernel
theorem dX12_init_78 : decode cX12_init 78 = .ok (.sipush 400, 3) := by decide +kernel
theorem dX12_init_81 : decode cX12_init 81 = .ok (.newarray .int, 2) := by decide +kernel
theorem dX12_init_83 : decode cX12_init 83 = .ok (.putfield 39, 3) := by decide +kernel
theorem dX12_init_86 : decode cX12_init 86 = .ok (.aload_n 0, 1) := by decide +kernel
theorem dX12_init_87 : decode cX12_init 87 = .ok (.sipush 400, 3) := by decide +kernel
theorem dX12_init_90 : decode cX12_init 90 = .ok (.newarray .int, 2) := by decide +kernel
theorem dX12_init_92 : decode cX12_init 92 = .ok (.putfield 42, 3) := by decide +kernel
theorem dX12_init_95 : decode cX12_init 95 = .ok (.aload_n 0, 1) := by decide +kernel
theorem dX12_init_96 : decode cX12_init 96 = .ok (.iconst 5, 1) := by decide +kernel
theorem dX12_init_97 : decode cX12_init 97 = .ok (.newarray .long, 2) := by decide +kernel
theorem dX12_init_99 : decode cX12_init 99 = .ok (.dup, 1) := by decide +kernel
theorem dX12_init_100 : decode cX12_init 100 = .ok (.iconst 0, 1) := by decide +kernel
theorem dX12_init_101 : decode cX12_init 101 = .ok (.ldc2_w 45, 3) := by decide +kernel
theorem dX12_init_104 : decode cX12_init 104 = .ok (.lastore, 1) := by decide +kernel
theorem dX12_init_105 : decode cX12_init 105 = .ok (.dup, 1) := by decide +kernel
theorem dX12_init_106 : decode cX12_init 106 = .ok (.iconst 1, 1) := by decide +kernel
theorem dX12_init_107 : decode cX12_init 107 = .ok (.ldc2_w 47, 3) := by decide +kernel
theorem dX12_init_110 : decode cX12_init 110 = .ok (.lastore, 1) := by decide +kernel
theorem dX12_init_111 : decode cX12_init 111 = .ok (.dup, 1) := by decide +kernel
theorem dX12_init_112 : decode cX12_init 112 = .ok (.iconst 2, 1) := by decide +kernel
theorem dX12_init_113 : decode cX12_init 113 = .ok (.ldc2_w 49, 3) := by decide +kernel
theorem dX12_init_116 : decode cX12_init 116 = .ok (.lastore, 1) := by decide +kernel
theorem dX12_init_117 : decode cX12_init 117 = .ok (.dup, 1) := by decide +kernel
theorem dX12_init_118 : decode cX12_init 118 = .ok (.iconst 3, 1) := by decide +kernel
theorem dX12_init_119 : decode cX12_init 119 = .ok (.ldc2_w 51, 3) := by decide +kernel
theorem dX12_init_122 : decode cX12_init 122 = .ok (.lastore, 1) := by decide +kernel
theorem dX12_init_123 : decode cX12_init 123 = .ok (.dup, 1) := by decide +kernel
theorem dX12_init_124 : decode cX12_init 124 = .ok (.iconst 4, 1) := by decide +kernel
theorem dX12_init_125 : decode cX12_init 125 = .ok (.ldc2_w 53, 3) := by decide +kernel
theorem dX12_init_128 : decode cX12_init 128 = .ok (.lastore, 1) := by decide +kernel
theorem dX12_init_129 : decode cX12_init 129 = .ok (.putfield 55, 3) := by decide +kernel
theorem dX12_init_132 : decode cX12_init 132 = .ok (.aload_n 0, 1) := by decide +kernel
theorem dX12_init_133 : decode cX12_init 133 = .ok (.bipush 13, 2) := by decide +kernel
theorem dX12_init_135 : decode cX12_init 135 = .ok (.newarray .long, 2) := by decide +kernel
theorem dX12_init_137 : decode cX12_init 137 = .ok (.putfield 59, 3) := by decide +kernel
theorem dX12_init_140 : decode cX12_init 140 = .ok (.aload_n 0, 1) := by decide +kernel
theorem dX12_init_141 : decode cX12_init 141 = .ok (.sipush 400, 3) := by decide +kernel
theorem dX12_init_144 : decode cX12_init 144 = .ok (.newarray .long, 2) := by decide +kernel
theorem dX12_init_146 : decode cX12_init 146 = .ok (.putfield 62, 3) := by decide +kernel
theorem dX12_init_149 : decode cX12_init 149 = .ok (.aload_n 0, 1) := by decide +kernel
theorem dX12_init_150 : decode cX12_init 150 = .ok (.iconst 4, 1) := by decide +kernel
theorem dX12_init_151 : decode cX12_init 151 = .ok (.newarray .int, 2) := by decide +kernel
theorem dX12_init_153 : decode cX12_init 153 = .ok (.putfield 65, 3) := by decide +kernel
theorem dX12_init_156 : decode cX12_init 156 = .ok (.aload_n 0, 1) := by decide +kernel
theorem dX12_init_157 : decode cX12_init 157 = .ok (.iconst 4, 1) := by decide +kernel
theorem dX12_init_158 : decode cX12_init 158 = .ok (.newarray .int, 2) := by decide +kernel
theorem dX12_init_160 : decode cX12_init 160 = .ok (.putfield 68, 3) := by decide +kernel
theorem dX12_init_163 : decode cX12_init 163 = .ok (.aload_n 0, 1) := by decide +kernel
theorem dX12_init_164 : decode cX12_init 164 = .ok (.sipush 2001, 3) := by decide +kernel
theorem dX12_init_167 : decode cX12_init 167 = .ok (.newarray .int, 2) := by decide +kernel
theorem dX12_init_169 : decode cX12_init 169 = .ok (.putfield 71, 3) := by decide +kernel
theorem dX12_init_172 : decode cX12_init 172 = .ok (.aload_n 0, 1) := by decide +kernel
theorem dX12_init_173 : decode cX12_init 173 = .ok (.ldc 74, 2) := by decide +kernel
theorem dX12_init_175 : decode cX12_init 175 = .ok (.newarray .int, 2) := by decide +kernel
theorem dX12_init_177 : decode cX12_init 177 = .ok (.putfield 75, 3) := by decide +kernel
theorem dX12_init_180 : decode cX12_init 180 = .ok (.aload_n 0, 1) := by decide +kernel
theorem dX12_init_181 : decode cX12_init 181 = .ok (.ldc 78, 2) := by decide +kernel
theorem dX12_init_183 : decode cX12_init 183 = .ok (.newarray .int, 2) := by decide +kernel
theorem dX12_init_185 : decode cX12_init 185 = .ok (.putfield 79, 3) := by decide +kernel
theorem dX12_init_188 : decode cX12_init 188 = .ok (.aload_n 0, 1) := by decide +kernel
theorem dX12_init_189 : decode cX12_init 189 = .ok (.bipush 6, 2) := by decide +kernel
theorem dX12_init_191 : decode cX12_init 191 = .ok (.newarray .int, 2) := by decide +kernel
theorem dX12_init_193 : decode cX12_init 193 = .ok (.putfield 82, 3) := by decide +kernel
theorem dX12_init_196 : decode cX12_init 196 = .ok (.aload_n 0, 1) := by decide +kernel
theorem dX12_init_197 : decode cX12_init 197 = .ok (.bipush 6, 2) := by decide +kernel
theorem dX12_init_199 : decode cX12_init 199 = .ok (.newarray .int, 2) := by decide +kernel
theorem dX12_init_201 : decode cX12_init 201 = .ok (.putfield 85, 3) := by decide +kernel
theorem dX12_init_204 : decode cX12_init 204 = .ok (.aload_n 0, 1) := by decide +kernel
theorem dX12_init_205 : decode cX12_init 205 = .ok (.getfield 13, 3) := by decide +kernel
theorem dX12_init_208 : decode cX12_init 208 = .ok (.iconst 3, 1) := by decide +kernel
theorem dX12_init_209 : decode cX12_init 209 = .ok (.iconst (-1), 1) := by decide +kernel
theorem dX12_init_210 : decode cX12_init 210 = .ok (.iastore, 1) := by decide +kernel
theorem dX12_init_211 : decode cX12_init 211 = .ok (.aload_n 0, 1) := by decide +kernel
theorem dX12_init_212 : decode cX12_init 212 = .ok (.getfield 13, 3) := by decide +kernel
theorem dX12_init_215 : decode cX12_init 215 = .ok (.bipush 6, 2) := by decide +kernel
theorem dX12_init_217 : decode cX12_init 217 = .ok (.sipush 10000, 3) := by decide +kernel
theorem dX12_init_220 : decode cX12_init 220 = .ok (.iastore, 1) := by decide +kernel
theorem dX12_init_221 : decode cX12_init 221 = .ok (.return_, 1) := by decide +kernel
theorem dX12_in_0 : decode cX12_in 0 = .ok (.lload_n 0, 1) := by decide +kernel
theorem dX12_in_1 : decode cX12_in 1 = .ok (.lload_n 2, 1) := by decide +kernel
theorem dX12_in_2 : decode cX12_in 2 = .ok (.lcmp, 1) := by decide +kernel
theorem dX12_in_3 : decode cX12_in 3 = .ok (.ifCond .lt 14, 3) := by decide +kernel
theorem dX12_in_6 : decode cX12_in 6 = .ok (.lload_n 0, 1) := by decide +kernel
theorem dX12_in_7 : decode cX12_in 7 = .ok (.lload 4, 2) := by decide +kernel
theorem dX12_in_9 : decode cX12_in 9 = .ok (.lcmp, 1) := by decide +kernel
theorem dX12_in_10 : decode cX12_in 10 = .ok (.ifCond .gt 7, 3) := by decide +kernel
theorem dX12_in_13 : decode cX12_in 13 = .ok (.iconst 1, 1) := by decide +kernel
theorem dX12_in_14 : decode cX12_in 14 = .ok (.goto 4, 3) := by decide +kernel
theorem dX12_in_17 : decode cX12_in 17 = .ok (.iconst 0, 1) := by decide +kernel
theorem dX12_in_18 : decode cX12_in 18 = .ok (.ireturn, 1) := by decide +kernel
theorem dX12_tell_0 : decode cX12_tell 0 = .ok (.aload_n 0, 1) := by decide +kernel
theorem dX12_tell_1 : decode cX12_tell 1 = .ok (.iload_n 1, 1) := by decide +kernel
theorem dX12_tell_2 : decode cX12_tell 2 = .ok (.ifCond .ge 7, 3) := by decide +kernel
theorem dX12_tell_5 : decode cX12_tell 5 = .ok (.iload_n 1, 1) := by decide +kernel
theorem dX12_tell_6 : decode cX12_tell 6 = .ok (.goto 4, 3) := by decide +kernel
theorem dX12_tell_9 : decode cX12_tell 9 = .ok (.iconst 0, 1) := by decide +kernel
theorem dX12_tell_10 : decode cX12_tell 10 = .ok (.putfield 91, 3) := by decide +kernel
theorem dX12_tell_13 : decode cX12_tell 13 = .ok (.iload_n 1, 1) := by decide +kernel
theorem dX12_tell_14 : decode cX12_tell 14 = .ok (.ifCond .ge 14, 3) := by decide +kernel
theorem dX12_tell_17 : decode cX12_tell 17 = .ok (.aload_n 0, 1) := by decide +kernel
theorem dX12_tell_18 : decode cX12_tell 18 = .ok (.getfield 7, 3) := by decide +kernel
theorem dX12_tell_21 : decode cX12_tell 21 = .ok (.iload_n 1, 1) := by decide +kernel
theorem dX12_tell_22 : decode cX12_tell 22 = .ok (.ineg, 1) := by decide +kernel
theorem dX12_tell_23 : decode cX12_tell 23 = .ok (.dup2, 1) := by decide +kernel
theorem dX12_tell_24 : decode cX12_tell 24 = .ok (.iaload, 1) := by decide +kernel
theorem dX12_tell_25 : decode cX12_tell 25 = .ok (.iconst 1, 1) := by decide +kernel
theorem dX12_tell_26 : decode cX12_tell 26 = .ok (.iadd, 1) := by decide +kernel
theorem dX12_tell_27 : decode cX12_tell 27 = .ok (.iastore, 1) := by decide +kernel
theorem dX12_tell_28 : decode cX12_tell 28 = .ok (.iload_n 1, 1) := by decide +kernel
theorem dX12_tell_29 : decode cX12_tell 29 = .ok (.ireturn, 1) := by decide +kernel
theorem dX12_was_0 : decode cX12_was 0 = .ok (.aload_n 0, 1) := by decide +kernel
theorem dX12_was_1 : decode cX12_was 1 = .ok (.iconst 0, 1) := by decide +kernel
theorem dX12_was_2 : decode cX12_was 2 = .ok (.putfield 91, 3) := by decide +kernel
theorem dX12_was_5 : decode cX12_was 5 = .ok (.iload_n 1, 1) := by decide +kernel
theorem dX12_was_6 : decode cX12_was 6 = .ok (.ireturn, 1) := by decide +kernel
theorem dX12_change_0 : decode cX12_change 0 = .ok (.aload_n 0, 1) := by decide +kernel
theorem dX12_change_1 : decode cX12_change 1 = .ok (.getfield 13, 3) := by decide +kernel
theorem dX12_change_4 : decode cX12_change 4 = .ok (.iload_n 1, 1) := by decide +kernel
theorem dX12_change_5 : decode cX12_change 5 = .ok (.iaload, 1) := by decide +kernel
theorem dX12_change_6 : decode cX12_change 6 = .ok (.istore_n 3, 1) := by decide +kernel
theorem dX12_change_7 : decode cX12_change 7 = .ok (.aload_n 0, 1) := by decide +kernel
theorem dX12_change_8 : decode cX12_change 8 = .ok (.getfield 13, 3) := by decide +kernel
theorem dX12_change_11 : decode cX12_change 11 = .ok (.iload_n 1, 1) := by decide +kernel
theorem dX12_change_12 : decode cX12_change 12 = .ok (.iload_n 2, 1) := by decide +kernel
theorem dX12_change_13 : decode cX12_change 13 = .ok (.iastore, 1) := by decide +kernel
theorem dX12_change_14 : decode cX12_change 14 = .ok (.aload_n 0, 1) := by decide +kernel
theorem dX12_change_15 : decode cX12_change 15 = .ok (.iload_n 3, 1) := by decide +kernel
theorem dX12_change_16 : decode cX12_change 16 = .ok (.invokevirtual 94, 3) := by decide +kernel
theorem dX12_change_19 : decode cX12_change 19 = .ok (.ireturn, 1) := by decide +kernel
theorem dX12_image_0 : decode cX12_image 0 = .ok (.aload_n 0, 1) := by decide +kernel
theorem dX12_image_1 : decode cX12_image 1 = .ok (.iconst 0, 1) := by decide +kernel
theorem dX12_image_2 : decode cX12_image 2 = .ok (.putfield 88, 3) := by decide +kernel
theorem dX12_image_5 : decode cX12_image 5 = .ok (.iload_n 1, 1) := by decide +kernel
theorem dX12_image_6 : decode cX12_image 6 = .ok (.i2l, 1) := by decide +kernel
theorem dX12_image_7 : decode cX12_image 7 = .ok (.lconst 0, 1) := by decide +kernel
theorem dX12_image_8 : decode cX12_image 8 = .ok (.lconst 1, 1) := by decide +kernel
theorem dX12_image_9 : decode cX12_image 9 = .ok (.invokestatic 98, 3) := by decide +kernel
theorem dX12_image_12 : decode cX12_image 12 = .ok (.ifCond .ne 9, 3) := by decide +kernel
theorem dX12_image_15 : decode cX12_image 15 = .ok (.aload_n 0, 1) := by decide +kernel
theorem dX12_image_16 : decode cX12_image 16 = .ok (.iconst (-1), 1) := by decide +kernel
theorem dX12_image_17 : decode cX12_image 17 = .ok (.invokevirtual 102, 3) := by decide +kernel
theorem dX12_image_20 : decode cX12_image 20 = .ok (.ireturn, 1) := by decide +kernel
theorem dX12_image_21 : decode cX12_image 21 = .ok (.iconst 0, 1) := by decide +kernel
theorem dX12_image_22 : decode cX12_image 22 = .ok (.istore_n 2, 1) := by decide +kernel
theorem dX12_image_23 : decode cX12_image 23 = .ok (.iload_n 2, 1) := by decide +kernel
theorem dX12_image_24 : decode cX12_image 24 = .ok (.sipush 5550, 3) := by decide +kernel
theorem dX12_image_27 : decode cX12_image 27 = .ok (.if_icmp .ge 27, 3) := by decide +kernel
theorem dX12_image_30 : decode cX12_image 30 = .ok (.aload_n 0, 1) := by decide +kernel
theorem dX12_image_31 : decode cX12_image 31 = .ok (.getfield 16, 3) := by decide +kernel
theorem dX12_image_34 : decode cX12_image 34 = .ok (.sipush 5550, 3) := by decide +kernel
theorem dX12_image_37 : decode cX12_image 37 = .ok (.iload_n 1, 1) := by decide +kernel
theorem dX12_image_38 : decode cX12_image 38 = .ok (.imul, 1) := by decide +kernel
theorem dX12_image_39 : decode cX12_image 39 = .ok (.iload_n 2, 1) := by decide +kernel
theorem dX12_image_40 : decode cX12_image 40 = .ok (.iadd, 1) := by decide +kernel
theorem dX12_image_41 : decode cX12_image 41 = .ok (.aload_n 0, 1) := by decide +kernel
theorem dX12_image_42 : decode cX12_image 42 = .ok (.getfield 13, 3) := by decide +kernel
theorem dX12_image_45 : decode cX12_image 45 = .ok (.iload_n 2, 1) := by decide +kernel
theorem dX12_image_46 : decode cX12_image 46 = .ok (.iaload, 1) := by decide +kernel
theorem dX12_image_47 : decode cX12_image 47 = .ok (.iastore, 1) := by decide +kernel
theorem dX12_image_48 : decode cX12_image 48 = .ok (.iinc 2 1, 3) := by decide +kernel
theorem dX12_image_51 : decode cX12_image 51 = .ok (.goto (-28), 3) := by decide +kernel
theorem dX12_image_54 : decode cX12_image 54 = .ok (.aload_n 0, 1) := by decide +kernel
theorem dX12_image_55 : decode cX12_image 55 = .ok (.getfield 19, 3) := by decide +kernel
theorem dX12_image_58 : decode cX12_image 58 = .ok (.iload_n 1, 1) := by decide +kernel
theorem dX12_image_59 : decode cX12_image 59 = .ok (.iconst 1, 1) := by decide +kernel
theorem dX12_image_60 : decode cX12_image 60 = .ok (.bastore, 1) := by decide +kernel
theorem dX12_image_61 : decode cX12_image 61 = .ok (.aload_n 0, 1) := by decide +kernel
theorem dX12_image_62 : decode cX12_image 62 = .ok (.iconst 0, 1) := by decide +kernel
theorem dX12_image_63 : decode cX12_image 63 = .ok (.invokevirtual 102, 3) := by decide +kernel
theorem dX12_image_66 : decode cX12_image 66 = .ok (.ireturn, 1) := by decide +kernel
theorem dX12_back_0 : decode cX12_back 0 = .ok (.aload_n 0, 1) := by decide +kernel
theorem dX12_back_1 : decode cX12_back 1 = .ok (.iconst 0, 1) := by decide +kernel
theorem dX12_back_2 : decode cX12_back 2 = .ok (.putfield 88, 3) := by decide +kernel
theorem dX12_back_5 : decode cX12_back 5 = .ok (.iload_n 1, 1) := by decide +kernel
theorem dX12_back_6 : decode cX12_back 6 = .ok (.i2l, 1) := by decide +kernel
theorem dX12_back_7 : decode cX12_back 7 = .ok (.lconst 0, 1) := by decide +kernel
theorem dX12_back_8 : decode cX12_back 8 = .ok (.lconst 1, 1) := by decide +kernel
theorem dX12_back_9 : decode cX12_back 9 = .ok (.invokestatic 98, 3) := by decide +kernel
theorem dX12_back_12 : decode cX12_back 12 = .ok (.ifCond .ne 9, 3) := by decide +kernel
theorem dX12_back_15 : decode cX12_back 15 = .ok (.aload_n 0, 1) := by decide +kernel
theorem dX12_back_16 : decode cX12_back 16 = .ok (.iconst (-1), 1) := by decide +kernel
theorem dX12_back_17 : decode cX12_back 17 = .ok (.invokevirtual 102, 3) := by decide +kernel
theorem dX12_back_20 : decode cX12_back 20 = .ok (.ireturn, 1) := by decide +kernel
theorem dX12_back_21 : decode cX12_back 21 = .ok (.aload_n 0, 1) := by decide +kernel
theorem dX12_back_22 : decode cX12_back 22 = .ok (.getfield 19, 3) := by decide +kernel
theorem dX12_back_25 : decode cX12_back 25 = .ok (.iload_n 1, 1) := by decide +kernel
theorem dX12_back_26 : decode cX12_back 26 = .ok (.baload, 1) := by decide +kernel
theorem dX12_back_27 : decode cX12_back 27 = .ok (.ifCond .ne 10, 3) := by decide +kernel
theorem dX12_back_30 : decode cX12_back 30 = .ok (.aload_n 0, 1) := by decide +kernel
theorem dX12_back_31 : decode cX12_back 31 = .ok (.bipush (-2), 2) := by decide +kernel
theorem dX12_back_33 : decode cX12_back 33 = .ok (.invokevirtual 102, 3) := by decide +kernel
theorem dX12_back_36 : decode cX12_back 36 = .ok (.ireturn, 1) := by decide +kernel
theorem dX12_back_37 : decode cX12_back 37 = .ok (.iconst 0, 1) := by decide +kernel
theorem dX12_back_38 : decode cX12_back 38 = .ok (.istore_n 2, 1) := by decide +kernel
theorem dX12_back_39 : decode cX12_back 39 = .ok (.iload_n 2, 1) := by decide +kernel
theorem dX12_back_40 : decode cX12_back 40 = .ok (.sipush 5550, 3) := by decide +kernel
theorem dX12_back_43 : decode cX12_back 43 = .ok (.if_icmp .ge 27, 3) := by decide +kernel
theorem dX12_back_46 : decode cX12_back 46 = .ok (.aload_n 0, 1) := by decide +kernel
theorem dX12_back_47 : decode cX12_back 47 = .ok (.getfield 13, 3) := by decide +kernel
theorem dX12_back_50 : decode cX12_back 50 = .ok (.iload_n 2, 1) := by decide +kernel
theorem dX12_back_51 : decode cX12_back 51 = .ok (.aload_n 0, 1) := by decide +kernel
theorem dX12_back_52 : decode cX12_back 52 = .ok (.getfield 16, 3) := by decide +kernel
theorem dX12_back_55 : decode cX12_back 55 = .ok (.sipush 5550, 3) := by decide +kernel
theorem dX12_back_58 : decode cX12_back 58 = .ok (.iload_n 1, 1) := by decide +kernel
theorem dX12_back_59 : decode cX12_back 59 = .ok (.imul, 1) := by decide +kernel
theorem dX12_back_60 : decode cX12_back 60 = .ok (.iload_n 2, 1) := by decide +kernel
theorem dX12_back_61 : decode cX12_back 61 = .ok (.iadd, 1) := by decide +kernel
theorem dX12_back_62 : decode cX12_back 62 = .ok (.iaload, 1) := by decide +kernel
theorem dX12_back_63 : decode cX12_back 63 = .ok (.iastore, 1) := by decide +kernel
theorem dX12_back_64 : decode cX12_back 64 = .ok (.iinc 2 1, 3) := by decide +kernel
theorem dX12_back_67 : decode cX12_back 67 = .ok (.goto (-28), 3) := by decide +kernel
theorem dX12_back_70 : decode cX12_back 70 = .ok (.aload_n 0, 1) := by decide +kernel
theorem dX12_back_71 : decode cX12_back 71 = .ok (.iconst 0, 1) := by decide +kernel
theorem dX12_back_72 : decode cX12_back 72 = .ok (.invokevirtual 102, 3) := by decide +kernel
theorem dX12_back_75 : decode cX12_back 75 = .ok (.ireturn, 1) := by decide +kernel
theorem dX12_isHand_0 : decode cX12_isHand 0 = .ok (.iload_n 1, 1) := by decide +kernel
theorem dX12_isHand_1 : decode cX12_isHand 1 = .ok (.i2l, 1) := by decide +kernel
theorem dX12_isHand_2 : decode cX12_isHand 2 = .ok (.lconst 0, 1) := by decide +kernel
theorem dX12_isHand_3 : decode cX12_isHand 3 = .ok (.aload_n 0, 1) := by decide +kernel
theorem dX12_isHand_4 : decode cX12_isHand 4 = .ok (.getfield 13, 3) := by decide +kernel
theorem dX12_isHand_7 : decode cX12_isHand 7 = .ok (.iconst 0, 1) := by decide +kernel
theorem dX12_isHand_8 : decode cX12_isHand 8 = .ok (.iaload, 1) := by decide +kernel
theorem dX12_isHand_9 : decode cX12_isHand 9 = .ok (.i2l, 1) := by decide +kernel
theorem dX12_isHand_10 : decode cX12_isHand 10 = .ok (.lconst 1, 1) := by decide +kernel
theorem dX12_isHand_11 : decode cX12_isHand 11 = .ok (.lsub, 1) := by decide +kernel
theorem dX12_isHand_12 : decode cX12_isHand 12 = .ok (.invokestatic 98, 3) := by decide +kernel
theorem dX12_isHand_15 : decode cX12_isHand 15 = .ok (.ireturn, 1) := by decide +kernel
theorem dX12_isDay_0 : decode cX12_isDay 0 = .ok (.iload_n 0, 1) := by decide +kernel
theorem dX12_isDay_1 : decode cX12_isDay 1 = .ok (.i2l, 1) := by decide +kernel
theorem dX12_isDay_2 : decode cX12_isDay 2 = .ok (.lconst 0, 1) := by decide +kernel
theorem dX12_isDay_3 : decode cX12_isDay 3 = .ok (.ldc2_w 105, 3) := by decide +kernel
theorem dX12_isDay_6 : decode cX12_isDay 6 = .ok (.invokestatic 98, 3) := by decide +kernel
theorem dX12_isDay_9 : decode cX12_isDay 9 = .ok (.ireturn, 1) := by decide +kernel
theorem dX12_ofHand_0 : decode cX12_ofHand 0 = .ok (.aload_n 0, 1) := by decide +kernel
theorem dX12_ofHand_1 : decode cX12_ofHand 1 = .ok (.getfield 13, 3) := by decide +kernel
theorem dX12_ofHand_4 : decode cX12_ofHand 4 = .ok (.bipush 10, 2) := by decide +kernel
theorem dX12_ofHand_6 : decode cX12_ofHand 6 = .ok (.bipush 12, 2) := by decide +kernel
theorem dX12_ofHand_8 : decode cX12_ofHand 8 = .ok (.iload_n 1, 1) := by decide +kernel
theorem dX12_ofHand_9 : decode cX12_ofHand 9 = .ok (.imul, 1) := by decide +kernel
theorem dX12_ofHand_10 : decode cX12_ofHand 10 = .ok (.iadd, 1) := by decide +kernel
theorem dX12_ofHand_11 : decode cX12_ofHand 11 = .ok (.iload_n 2, 1) := by decide +kernel
theorem dX12_ofHand_12 : decode cX12_ofHand 12 = .ok (.iadd, 1) := by decide +kernel
theorem dX12_ofHand_13 : decode cX12_ofHand 13 = .ok (.iaload, 1) := by decide +kernel
theorem dX12_ofHand_14 : decode cX12_ofHand 14 = .ok (.ireturn, 1) := by decide +kernel
theorem dX12_hand_0 : decode cX12_hand 0 = .ok (.aload_n 0, 1) := by decide +kernel
theorem dX12_hand_1 : decode cX12_hand 1 = .ok (.iconst 0, 1) := by decide +kernel
theorem dX12_hand_2 : decode cX12_hand 2 = .ok (.putfield 88, 3) := by decide +kernel
theorem dX12_hand_5 : decode cX12_hand 5 = .ok (.iload_n 1, 1) := by decide +kernel
theorem dX12_hand_6 : decode cX12_hand 6 = .ok (.i2l, 1) := by decide +kernel
theorem dX12_hand_7 : decode cX12_hand 7 = .ok (.lconst 1, 1) := by decide +kernel
theorem dX12_hand_8 : decode cX12_hand 8 = .ok (.ldc2_w 107, 3) := by decide +kernel
theorem dX12_hand_11 : decode cX12_hand 11 = .ok (.invokestatic 98, 3) := by decide +kernel
theorem dX12_hand_14 : decode cX12_hand 14 = .ok (.ifCond .ne 9, 3) := by decide +kernel
theorem dX12_hand_17 : decode cX12_hand 17 = .ok (.aload_n 0, 1) := by decide +kernel
theorem dX12_hand_18 : decode cX12_hand 18 = .ok (.iconst (-1), 1) := by decide +kernel
theorem dX12_hand_19 : decode cX12_hand 19 = .ok (.invokevirtual 102, 3) := by decide +kernel
theorem dX12_hand_22 : decode cX12_hand 22 = .ok (.ireturn, 1) := by decide +kernel
theorem dX12_hand_23 : decode cX12_hand 23 = .ok (.aload_n 0, 1) := by decide +kernel
theorem dX12_hand_24 : decode cX12_hand 24 = .ok (.getfield 13, 3) := by decide +kernel
theorem dX12_hand_27 : decode cX12_hand 27 = .ok (.iconst 0, 1) := by decide +kernel
theorem dX12_hand_28 : decode cX12_hand 28 = .ok (.iaload, 1) := by decide +kernel
theorem dX12_hand_29 : decode cX12_hand 29 = .ok (.istore_n 2, 1) := by decide +kernel
theorem dX12_hand_30 : decode cX12_hand 30 = .ok (.iload_n 2, 1) := by decide +kernel
theorem dX12_hand_31 : decode cX12_hand 31 = .ok (.bipush 6, 2) := by decide +kernel
theorem dX12_hand_33 : decode cX12_hand 33 = .ok (.if_icmp .ne 10, 3) := by decide +kernel
theorem dX12_hand_36 : decode cX12_hand 36 = .ok (.aload_n 0, 1) := by decide +kernel
theorem dX12_hand_37 : decode cX12_hand 37 = .ok (.bipush (-5), 2) := by decide +kernel
theorem dX12_hand_39 : decode cX12_hand 39 = .ok (.invokevirtual 102, 3) := by decide +kernel
theorem dX12_hand_42 : decode cX12_hand 42 = .ok (.ireturn, 1) := by decide +kernel
theorem dX12_hand_43 : decode cX12_hand 43 = .ok (.iconst 0, 1) := by decide +kernel
theorem dX12_hand_44 : decode cX12_hand 44 = .ok (.istore_n 3, 1) := by decide +kernel
theorem dX12_hand_45 : decode cX12_hand 45 = .ok (.iload_n 3, 1) := by decide +kernel
theorem dX12_hand_46 : decode cX12_hand 46 = .ok (.bipush 12, 2) := by decide +kernel
theorem dX12_hand_48 : decode cX12_hand 48 = .ok (.if_icmp .ge 24, 3) := by decide +kernel
theorem dX12_hand_51 : decode cX12_hand 51 = .ok (.aload_n 0, 1) := by decide +kernel
theorem dX12_hand_52 : decode cX12_hand 52 = .ok (.getfield 13, 3) := by decide +kernel
theorem dX12_hand_55 : decode cX12_hand 55 = .ok (.bipush 10, 2) := by decide +kernel
theorem dX12_hand_57 : decode cX12_hand 57 = .ok (.bipush 12, 2) := by decide +kernel
theorem dX12_hand_59 : decode cX12_hand 59 = .ok (.iload_n 2, 1) := by decide +kernel
theorem dX12_hand_60 : decode cX12_hand 60 = .ok (.imul, 1) := by decide +kernel
theorem dX12_hand_61 : decode cX12_hand 61 = .ok (.iadd, 1) := by decide +kernel
theorem dX12_hand_62 : decode cX12_hand 62 = .ok (.iload_n 3, 1) := by decide +kernel
theorem dX12_hand_63 : decode cX12_hand 63 = .ok (.iadd, 1) := by decide +kernel
theorem dX12_hand_64 : decode cX12_hand 64 = .ok (.iconst 0, 1) := by decide +kernel
theorem dX12_hand_65 : decode cX12_hand 65 = .ok (.iastore, 1) := by decide +kernel
theorem dX12_hand_66 : decode cX12_hand 66 = .ok (.iinc 3 1, 3) := by decide +kernel
theorem dX12_hand_69 : decode cX12_hand 69 = .ok (.goto (-24), 3) := by decide +kernel
theorem dX12_hand_72 : decode cX12_hand 72 = .ok (.aload_n 0, 1) := by decide +kernel
theorem dX12_hand_73 : decode cX12_hand 73 = .ok (.getfield 13, 3) := by decide +kernel
theorem dX12_hand_76 : decode cX12_hand 76 = .ok (.bipush 10, 2) := by decide +kernel
theorem dX12_hand_78 : decode cX12_hand 78 = .ok (.bipush 12, 2) := by decide +kernel
theorem dX12_hand_80 : decode cX12_hand 80 = .ok (.iload_n 2, 1) := by decide +kernel
theorem dX12_hand_81 : decode cX12_hand 81 = .ok (.imul, 1) := by decide +kernel
theorem dX12_hand_82 : decode cX12_hand 82 = .ok (.iadd, 1) := by decide +kernel
theorem dX12_hand_83 : decode cX12_hand 83 = .ok (.iload_n 1, 1) := by decide +kernel
theorem dX12_hand_84 : decode cX12_hand 84 = .ok (.iastore, 1) := by decide +kernel
theorem dX12_hand_85 : decode cX12_hand 85 = .ok (.aload_n 0, 1) := by decide +kernel
theorem dX12_hand_86 : decode cX12_hand 86 = .ok (.getfield 13, 3) := by decide +kernel
theorem dX12_hand_89 : decode cX12_hand 89 = .ok (.iconst 0, 1) := by decide +kernel
theorem dX12_hand_90 : decode cX12_hand 90 = .ok (.dup2, 1) := by decide +kernel
theorem dX12_hand_91 : decode cX12_hand 91 = .ok (.iaload, 1) := by decide +kernel
theorem dX12_hand_92 : decode cX12_hand 92 = .ok (.iconst 1, 1) := by decide +kernel
theorem dX12_hand_93 : decode cX12_hand 93 = .ok (.iadd, 1) := by decide +kernel
theorem dX12_hand_94 : decode cX12_hand 94 = .ok (.iastore, 1) := by decide +kernel
theorem dX12_hand_95 : decode cX12_hand 95 = .ok (.aload_n 0, 1) := by decide +kernel
theorem dX12_hand_96 : decode cX12_hand 96 = .ok (.iload_n 2, 1) := by decide +kernel
theorem dX12_hand_97 : decode cX12_hand 97 = .ok (.invokevirtual 102, 3) := by decide +kernel
theorem dX12_hand_100 : decode cX12_hand 100 = .ok (.ireturn, 1) := by decide +kernel
theorem dX12_put_0 : decode cX12_put 0 = .ok (.aload_n 0, 1) := by decide +kernel
theorem dX12_put_1 : decode cX12_put 1 = .ok (.iconst 0, 1) := by decide +kernel
theorem dX12_put_2 : decode cX12_put 2 = .ok (.putfield 88, 3) := by decide +kernel
theorem dX12_put_5 : decode cX12_put 5 = .ok (.iload_n 2, 1) := by decide +kernel
theorem dX12_put_6 : decode cX12_put 6 = .ok (.ifCond .ne 15, 3) := by decide +kernel
theorem dX12_put_9 : decode cX12_put 9 = .ok (.iload_n 3, 1) := by decide +kernel
theorem dX12_put_10 : decode cX12_put 10 = .ok (.ifCond .lt 7, 3) := by decide +kernel
theorem dX12_put_13 : decode cX12_put 13 = .ok (.iconst 1, 1) := by decide +kernel
theorem dX12_put_14 : decode cX12_put 14 = .ok (.goto 29, 3) := by decide +kernel
theorem dX12_put_17 : decode cX12_put 17 = .ok (.iconst 0, 1) := by decide +kernel
theorem dX12_put_18 : decode cX12_put 18 = .ok (.goto 25, 3) := by decide +kernel
theorem dX12_put_21 : decode cX12_put 21 = .ok (.iload_n 2, 1) := by decide +kernel
theorem dX12_put_22 : decode cX12_put 22 = .ok (.iconst 1, 1) := by decide +kernel
theorem dX12_put_23 : decode cX12_put 23 = .ok (.if_icmp .ne 19, 3) := by decide +kernel
theorem dX12_put_26 : decode cX12_put 26 = .ok (.iload_n 3, 1) := by decide +kernel
theorem dX12_put_27 : decode cX12_put 27 = .ok (.i2l, 1) := by decide +kernel
theorem dX12_put_28 : decode cX12_put 28 = .ok (.lconst 0, 1) := by decide +kernel
theorem dX12_put_29 : decode cX12_put 29 = .ok (.ldc2_w 109, 3) := by decide +kernel
theorem dX12_put_32 : decode cX12_put 32 = .ok (.invokestatic 98, 3) := by decide +kernel
theorem dX12_put_35 : decode cX12_put 35 = .ok (.ifCond .eq 7, 3) := by decide +kernel
theorem dX12_put_38 : decode cX12_put 38 = .ok (.iconst 1, 1) := by decide +kernel
theorem dX12_put_39 : decode cX12_put 39 = .ok (.goto 4, 3) := by decide +kernel
theorem dX12_put_42 : decode cX12_put 42 = .ok (.iconst 0, 1) := by decide +kernel
theorem dX12_put_43 : decode cX12_put 43 = .ok (.istore 4, 2) := by decide +kernel
theorem dX12_put_45 : decode cX12_put 45 = .ok (.iload 4, 2) := by decide +kernel
theorem dX12_put_47 : decode cX12_put 47 = .ok (.ifCond .ne 9, 3) := by decide +kernel
theorem dX12_put_50 : decode cX12_put 50 = .ok (.aload_n 0, 1) := by decide +kernel
theorem dX12_put_51 : decode cX12_put 51 = .ok (.iconst (-1), 1) := by decide +kernel
theorem dX12_put_52 : decode cX12_put 52 = .ok (.invokevirtual 102, 3) := by decide +kernel
theorem dX12_put_55 : decode cX12_put 55 = .ok (.ireturn, 1) := by decide +kernel
theorem dX12_put_56 : decode cX12_put 56 = .ok (.aload_n 0, 1) := by decide +kernel
theorem dX12_put_57 : decode cX12_put 57 = .ok (.iload_n 1, 1) := by decide +kernel
theorem dX12_put_58 : decode cX12_put 58 = .ok (.invokevirtual 111, 3) := by decide +kernel
theorem dX12_put_61 : decode cX12_put 61 = .ok (.ifCond .ne 10, 3) := by decide +kernel
theorem dX12_put_64 : decode cX12_put 64 = .ok (.aload_n 0, 1) := by decide +kernel
theorem dX12_put_65 : decode cX12_put 65 = .ok (.bipush (-2), 2) := by decide +kernel
theorem dX12_put_67 : decode cX12_put 67 = .ok (.invokevirtual 102, 3) := by decide +kernel
theorem dX12_put_70 : decode cX12_put 70 = .ok (.ireturn, 1) := by decide +kernel
theorem dX12_put_71 : decode cX12_put 71 = .ok (.iload_n 2, 1) := by decide +kernel
theorem dX12_put_72 : decode cX12_put 72 = .ok (.ifCond .ne 21, 3) := by decide +kernel
theorem dX12_put_75 : decode cX12_put 75 = .ok (.iload_n 3, 1) := by decide +kernel
theorem dX12_put_76 : decode cX12_put 76 = .ok (.aload_n 0, 1) := by decide +kernel
theorem dX12_put_77 : decode cX12_put 77 = .ok (.iload_n 1, 1) := by decide +kernel
theorem dX12_put_78 : decode cX12_put 78 = .ok (.iconst 0, 1) := by decide +kernel
theorem dX12_put_79 : decode cX12_put 79 = .ok (.invokevirtual 115, 3) := by decide +kernel
theorem dX12_put_82 : decode cX12_put 82 = .ok (.if_icmp .lt 11, 3) := by decide +kernel
theorem dX12_put_85 : decode cX12_put 85 = .ok (.aload_n 0, 1) := by decide +kernel
theorem dX12_put_86 : decode cX12_put 86 = .ok (.iconst (-1), 1) := by decide +kernel
theorem dX12_put_87 : decode cX12_put 87 = .ok (.invokevirtual 102, 3) := by decide +kernel
theorem dX12_put_90 : decode cX12_put 90 = .ok (.goto 19, 3) := by decide +kernel
theorem dX12_put_93 : decode cX12_put 93 = .ok (.aload_n 0, 1) := by decide +kernel
theorem dX12_put_94 : decode cX12_put 94 = .ok (.bipush 10, 2) := by decide +kernel
theorem dX12_put_96 : decode cX12_put 96 = .ok (.bipush 12, 2) := by decide +kernel
theorem dX12_put_98 : decode cX12_put 98 = .ok (.iload_n 1, 1) := by decide +kernel
theorem dX12_put_99 : decode cX12_put 99 = .ok (.imul, 1) := by decide +kernel
theorem dX12_put_100 : decode cX12_put 100 = .ok (.iadd, 1) := by decide +kernel
theorem dX12_put_101 : decode cX12_put 101 = .ok (.iconst 1, 1) := by decide +kernel
theorem dX12_put_102 : decode cX12_put 102 = .ok (.iadd, 1) := by decide +kernel
theorem dX12_put_103 : decode cX12_put 103 = .ok (.iload_n 2, 1) := by decide +kernel
theorem dX12_put_104 : decode cX12_put 104 = .ok (.iadd, 1) := by decide +kernel
theorem dX12_put_105 : decode cX12_put 105 = .ok (.iload_n 3, 1) := by decide +kernel
theorem dX12_put_106 : decode cX12_put 106 = .ok (.invokevirtual 119, 3) := by decide +kernel
theorem dX12_put_109 : decode cX12_put 109 = .ok (.ireturn, 1) := by decide +kernel
theorem dX12_areTeeth_0 : decode cX12_areTeeth 0 = .ok (.iload_n 0, 1) := by decide +kernel
theorem dX12_areTeeth_1 : decode cX12_areTeeth 1 = .ok (.i2l, 1) := by decide +kernel
theorem dX12_areTeeth_2 : decode cX12_areTeeth 2 = .ok (.ldc2_w 122, 3) := by decide +kernel
theorem dX12_areTeeth_5 : decode cX12_areTeeth 5 = .ok (.ldc2_w 124, 3) := by decide +kernel
theorem dX12_areTeeth_8 : decode cX12_areTeeth 8 = .ok (.invokestatic 98, 3) := by decide +kernel
theorem dX12_areTeeth_11 : decode cX12_areTeeth 11 = .ok (.ireturn, 1) := by decide +kernel
theorem dX12_pair_0 : decode cX12_pair 0 = .ok (.aload_n 0, 1) := by decide +kernel
theorem dX12_pair_1 : decode cX12_pair 1 = .ok (.iconst 0, 1) := by decide +kernel
theorem dX12_pair_2 : decode cX12_pair 2 = .ok (.putfield 88, 3) := by decide +kernel
theorem dX12_pair_5 : decode cX12_pair 5 = .ok (.iload_n 2, 1) := by decide +kernel
theorem dX12_pair_6 : decode cX12_pair 6 = .ok (.invokestatic 126, 3) := by decide +kernel
theorem dX12_pair_9 : decode cX12_pair 9 = .ok (.ifCond .eq 10, 3) := by decide +kernel
theorem dX12_pair_12 : decode cX12_pair 12 = .ok (.iload_n 3, 1) := by decide +kernel
theorem dX12_pair_13 : decode cX12_pair 13 = .ok (.invokestatic 126, 3) := by decide +kernel
theorem dX12_pair_16 : decode cX12_pair 16 = .ok (.ifCond .ne 9, 3) := by decide +kernel
theorem dX12_pair_19 : decode cX12_pair 19 = .ok (.aload_n 0, 1) := by decide +kernel
theorem dX12_pair_20 : decode cX12_pair 20 = .ok (.iconst (-1), 1) := by decide +kernel
theorem dX12_pair_21 : decode cX12_pair 21 = .ok (.invokevirtual 102, 3) := by decide +kernel
theorem dX12_pair_24 : decode cX12_pair 24 = .ok (.ireturn, 1) := by decide +kernel
theorem dX12_pair_25 : decode cX12_pair 25 = .ok (.aload_n 0, 1) := by decide +kernel
theorem dX12_pair_26 : decode cX12_pair 26 = .ok (.iload_n 1, 1) := by decide +kernel
theorem dX12_pair_27 : decode cX12_pair 27 = .ok (.invokevirtual 111, 3) := by decide +kernel
theorem dX12_pair_30 : decode cX12_pair 30 = .ok (.ifCond .ne 10, 3) := by decide +kernel
theorem dX12_pair_33 : decode cX12_pair 33 = .ok (.aload_n 0, 1) := by decide +kernel
theorem dX12_pair_34 : decode cX12_pair 34 = .ok (.bipush (-2), 2) := by decide +kernel
theorem dX12_pair_36 : decode cX12_pair 36 = .ok (.invokevirtual 102, 3) := by decide +kernel
theorem dX12_pair_39 : decode cX12_pair 39 = .ok (.ireturn, 1) := by decide +kernel
theorem dX12_pair_40 : decode cX12_pair 40 = .ok (.aload_n 0, 1) := by decide +kernel
theorem dX12_pair_41 : decode cX12_pair 41 = .ok (.iload_n 1, 1) := by decide +kernel
theorem dX12_pair_42 : decode cX12_pair 42 = .ok (.iconst 3, 1) := by decide +kernel
theorem dX12_pair_43 : decode cX12_pair 43 = .ok (.invokevirtual 115, 3) := by decide +kernel
theorem dX12_pair_46 : decode cX12_pair 46 = .ok (.istore 4, 2) := by decide +kernel
theorem dX12_pair_48 : decode cX12_pair 48 = .ok (.iload 4, 2) := by decide +kernel
theorem dX12_pair_50 : decode cX12_pair 50 = .ok (.iconst 4, 1) := by decide +kernel
theorem dX12_pair_51 : decode cX12_pair 51 = .ok (.if_icmp .ne 10, 3) := by decide +kernel
theorem dX12_pair_54 : decode cX12_pair 54 = .ok (.aload_n 0, 1) := by decide +kernel
theorem dX12_pair_55 : decode cX12_pair 55 = .ok (.bipush (-5), 2) := by decide +kernel
theorem dX12_pair_57 : decode cX12_pair 57 = .ok (.invokevirtual 102, 3) := by decide +kernel
theorem dX12_pair_60 : decode cX12_pair 60 = .ok (.ireturn, 1) := by decide +kernel
theorem dX12_pair_61 : decode cX12_pair 61 = .ok (.aload_n 0, 1) := by decide +kernel
theorem dX12_pair_62 : decode cX12_pair 62 = .ok (.iload_n 1, 1) := by decide +kernel
theorem dX12_pair_63 : decode cX12_pair 63 = .ok (.iload_n 2, 1) := by decide +kernel
theorem dX12_pair_64 : decode cX12_pair 64 = .ok (.iload_n 3, 1) := by decide +kernel
theorem dX12_pair_65 : decode cX12_pair 65 = .ok (.invokevirtual 129, 3) := by decide +kernel
theorem dX12_pair_68 : decode cX12_pair 68 = .ok (.aload_n 0, 1) := by decide +kernel
theorem dX12_pair_69 : decode cX12_pair 69 = .ok (.iload 4, 2) := by decide +kernel
theorem dX12_pair_71 : decode cX12_pair 71 = .ok (.iconst 1, 1) := by decide +kernel
theorem dX12_pair_72 : decode cX12_pair 72 = .ok (.iadd, 1) := by decide +kernel
theorem dX12_pair_73 : decode cX12_pair 73 = .ok (.invokevirtual 102, 3) := by decide +kernel
theorem dX12_pair_76 : decode cX12_pair 76 = .ok (.ireturn, 1) := by decide +kernel
theorem dX12_addPair_0 : decode cX12_addPair 0 = .ok (.bipush 10, 2) := by decide +kernel
theorem dX12_addPair_2 : decode cX12_addPair 2 = .ok (.bipush 12, 2) := by decide +kernel
theorem dX12_addPair_4 : decode cX12_addPair 4 = .ok (.iload_n 1, 1) := by decide +kernel
theorem dX12_addPair_5 : decode cX12_addPair 5 = .ok (.imul, 1) := by decide +kernel
theorem dX12_addPair_6 : decode cX12_addPair 6 = .ok (.iadd, 1) := by decide +kernel
theorem dX12_addPair_7 : decode cX12_addPair 7 = .ok (.istore 4, 2) := by decide +kernel
theorem dX12_addPair_9 : decode cX12_addPair 9 = .ok (.aload_n 0, 1) := by decide +kernel
theorem dX12_addPair_10 : decode cX12_addPair 10 = .ok (.getfield 13, 3) := by decide +kernel
theorem dX12_addPair_13 : decode cX12_addPair 13 = .ok (.iload 4, 2) := by decide +kernel
theorem dX12_addPair_15 : decode cX12_addPair 15 = .ok (.iconst 4, 1) := by decide +kernel
theorem dX12_addPair_16 : decode cX12_addPair 16 = .ok (.iadd, 1) := by decide +kernel
theorem dX12_addPair_17 : decode cX12_addPair 17 = .ok (.iconst 2, 1) := by decide +kernel
theorem dX12_addPair_18 : decode cX12_addPair 18 = .ok (.aload_n 0, 1) := by decide +kernel
theorem dX12_addPair_19 : decode cX12_addPair 19 = .ok (.getfield 13, 3) := by decide +kernel
theorem dX12_addPair_22 : decode cX12_addPair 22 = .ok (.iload 4, 2) := by decide +kernel
theorem dX12_addPair_24 : decode cX12_addPair 24 = .ok (.iconst 3, 1) := by decide +kernel
theorem dX12_addPair_25 : decode cX12_addPair 25 = .ok (.iadd, 1) := by decide +kernel
theorem dX12_addPair_26 : decode cX12_addPair 26 = .ok (.iaload, 1) := by decide +kernel
theorem dX12_addPair_27 : decode cX12_addPair 27 = .ok (.imul, 1) := by decide +kernel
theorem dX12_addPair_28 : decode cX12_addPair 28 = .ok (.iadd, 1) := by decide +kernel
theorem dX12_addPair_29 : decode cX12_addPair 29 = .ok (.iload_n 2, 1) := by decide +kernel
theorem dX12_addPair_30 : decode cX12_addPair 30 = .ok (.iastore, 1) := by decide +kernel
theorem dX12_addPair_31 : decode cX12_addPair 31 = .ok (.aload_n 0, 1) := by decide +kernel
theorem dX12_addPair_32 : decode cX12_addPair 32 = .ok (.getfield 13, 3) := by decide +kernel
theorem dX12_addPair_35 : decode cX12_addPair 35 = .ok (.iload 4, 2) := by decide +kernel
theorem dX12_addPair_37 : decode cX12_addPair 37 = .ok (.iconst 4, 1) := by decide +kernel
theorem dX12_addPair_38 : decode cX12_addPair 38 = .ok (.iadd, 1) := by decide +kernel
theorem dX12_addPair_39 : decode cX12_addPair 39 = .ok (.iconst 2, 1) := by decide +kernel
theorem dX12_addPair_40 : decode cX12_addPair 40 = .ok (.aload_n 0, 1) := by decide +kernel
theorem dX12_addPair_41 : decode cX12_addPair 41 = .ok (.getfield 13, 3) := by decide +kernel
theorem dX12_addPair_44 : decode cX12_addPair 44 = .ok (.iload 4, 2) := by decide +kernel
theorem dX12_addPair_46 : decode cX12_addPair 46 = .ok (.iconst 3, 1) := by decide +kernel
theorem dX12_addPair_47 : decode cX12_addPair 47 = .ok (.iadd, 1) := by decide +kernel
theorem dX12_addPair_48 : decode cX12_addPair 48 = .ok (.iaload, 1) := by decide +kernel
theorem dX12_addPair_49 : decode cX12_addPair 49 = .ok (.imul, 1) := by decide +kernel
theorem dX12_addPair_50 : decode cX12_addPair 50 = .ok (.iadd, 1) := by decide +kernel
theorem dX12_addPair_51 : decode cX12_addPair 51 = .ok (.iconst 1, 1) := by decide +kernel
theorem dX12_addPair_52 : decode cX12_addPair 52 = .ok (.iadd, 1) := by decide +kernel
theorem dX12_addPair_53 : decode cX12_addPair 53 = .ok (.iload_n 3, 1) := by decide +kernel
theorem dX12_addPair_54 : decode cX12_addPair 54 = .ok (.iastore, 1) := by decide +kernel
theorem dX12_addPair_55 : decode cX12_addPair 55 = .ok (.aload_n 0, 1) := by decide +kernel
theorem dX12_addPair_56 : decode cX12_addPair 56 = .ok (.getfield 13, 3) := by decide +kernel
theorem dX12_addPair_59 : decode cX12_addPair 59 = .ok (.iload 4, 2) := by decide +kernel
theorem dX12_addPair_61 : decode cX12_addPair 61 = .ok (.iconst 3, 1) := by decide +kernel
theorem dX12_addPair_62 : decode cX12_addPair 62 = .ok (.iadd, 1) := by decide +kernel
theorem dX12_addPair_63 : decode cX12_addPair 63 = .ok (.dup2, 1) := by decide +kernel
theorem dX12_addPair_64 : decode cX12_addPair 64 = .ok (.iaload, 1) := by decide +kernel
theorem dX12_addPair_65 : decode cX12_addPair 65 = .ok (.iconst 1, 1) := by decide +kernel
theorem dX12_addPair_66 : decode cX12_addPair 66 = .ok (.iadd, 1) := by decide +kernel
theorem dX12_addPair_67 : decode cX12_addPair 67 = .ok (.iastore, 1) := by decide +kernel
theorem dX12_addPair_68 : decode cX12_addPair 68 = .ok (.return_, 1) := by decide +kernel
theorem dX12_strip_0 : decode cX12_strip 0 = .ok (.aload_n 0, 1) := by decide +kernel
theorem dX12_strip_1 : decode cX12_strip 1 = .ok (.iconst 0, 1) := by decide +kernel
theorem dX12_strip_2 : decode cX12_strip 2 = .ok (.putfield 88, 3) := by decide +kernel
theorem dX12_strip_5 : decode cX12_strip 5 = .ok (.aload_n 0, 1) := by decide +kernel
theorem dX12_strip_6 : decode cX12_strip 6 = .ok (.iload_n 1, 1) := by decide +kernel
theorem dX12_strip_7 : decode cX12_strip 7 = .ok (.invokevirtual 111, 3) := by decide +kernel
theorem dX12_strip_10 : decode cX12_strip 10 = .ok (.ifCond .eq 20, 3) := by decide +kernel
theorem dX12_strip_13 : decode cX12_strip 13 = .ok (.aload_n 0, 1) := by decide +kernel
theorem dX12_strip_14 : decode cX12_strip 14 = .ok (.bipush 10, 2) := by decide +kernel
theorem dX12_strip_16 : decode cX12_strip 16 = .ok (.bipush 12, 2) := by decide +kernel
theorem dX12_strip_18 : decode cX12_strip 18 = .ok (.iload_n 1, 1) := by decide +kernel
theorem dX12_strip_19 : decode cX12_strip 19 = .ok (.imul, 1) := by decide +kernel
theorem dX12_strip_20 : decode cX12_strip 20 = .ok (.iadd, 1) := by decide +kernel
theorem dX12_strip_21 : decode cX12_strip 21 = .ok (.iconst 3, 1) := by decide +kernel
theorem dX12_strip_22 : decode cX12_strip 22 = .ok (.iadd, 1) := by decide +kernel
theorem dX12_strip_23 : decode cX12_strip 23 = .ok (.iconst 0, 1) := by decide +kernel
theorem dX12_strip_24 : decode cX12_strip 24 = .ok (.invokevirtual 119, 3) := by decide +kernel
theorem dX12_strip_27 : decode cX12_strip 27 = .ok (.goto 9, 3) := by decide +kernel
theorem dX12_strip_30 : decode cX12_strip 30 = .ok (.aload_n 0, 1) := by decide +kernel
theorem dX12_strip_31 : decode cX12_strip 31 = .ok (.bipush (-2), 2) := by decide +kernel
theorem dX12_strip_33 : decode cX12_strip 33 = .ok (.invokevirtual 102, 3) := by decide +kernel
theorem dX12_strip_36 : decode cX12_strip 36 = .ok (.ireturn, 1) := by decide +kernel
theorem dX12_of_0 : decode cX12_of 0 = .ok (.aload_n 0, 1) := by decide +kernel
theorem dX12_of_1 : decode cX12_of 1 = .ok (.iconst 0, 1) := by decide +kernel
theorem dX12_of_2 : decode cX12_of 2 = .ok (.putfield 88, 3) := by decide +kernel
theorem dX12_of_5 : decode cX12_of 5 = .ok (.aload_n 0, 1) := by decide +kernel
theorem dX12_of_6 : decode cX12_of 6 = .ok (.iload_n 1, 1) := by decide +kernel
theorem dX12_of_7 : decode cX12_of 7 = .ok (.invokevirtual 111, 3) := by decide +kernel
theorem dX12_of_10 : decode cX12_of 10 = .ok (.ifCond .eq 15, 3) := by decide +kernel
theorem dX12_of_13 : decode cX12_of 13 = .ok (.iload_n 2, 1) := by decide +kernel
theorem dX12_of_14 : decode cX12_of 14 = .ok (.i2l, 1) := by decide +kernel
theorem dX12_of_15 : decode cX12_of 15 = .ok (.lconst 0, 1) := by decide +kernel
theorem dX12_of_16 : decode cX12_of 16 = .ok (.ldc2_w 133, 3) := by decide +kernel
theorem dX12_of_19 : decode cX12_of 19 = .ok (.invokestatic 98, 3) := by decide +kernel
theorem dX12_of_22 : decode cX12_of 22 = .ok (.ifCond .ne 5, 3) := by decide +kernel
theorem dX12_of_25 : decode cX12_of 25 = .ok (.iconst (-1), 1) := by decide +kernel
theorem dX12_of_26 : decode cX12_of 26 = .ok (.ireturn, 1) := by decide +kernel
theorem dX12_of_27 : decode cX12_of 27 = .ok (.iload_n 2, 1) := by decide +kernel
theorem dX12_of_28 : decode cX12_of 28 = .ok (.iconst 3, 1) := by decide +kernel
theorem dX12_of_29 : decode cX12_of 29 = .ok (.if_icmp .le 21, 3) := by decide +kernel
theorem dX12_of_32 : decode cX12_of 32 = .ok (.iload_n 2, 1) := by decide +kernel
theorem dX12_of_33 : decode cX12_of 33 = .ok (.iconst 4, 1) := by decide +kernel
theorem dX12_of_34 : decode cX12_of 34 = .ok (.isub, 1) := by decide +kernel
theorem dX12_of_35 : decode cX12_of 35 = .ok (.iconst 2, 1) := by decide +kernel
theorem dX12_of_36 : decode cX12_of 36 = .ok (.idiv, 1) := by decide +kernel
theorem dX12_of_37 : decode cX12_of 37 = .ok (.aload_n 0, 1) := by decide +kernel
theorem dX12_of_38 : decode cX12_of 38 = .ok (.iload_n 1, 1) := by decide +kernel
theorem dX12_of_39 : decode cX12_of 39 = .ok (.iconst 3, 1) := by decide +kernel
theorem dX12_of_40 : decode cX12_of 40 = .ok (.invokevirtual 115, 3) := by decide +kernel
theorem dX12_of_43 : decode cX12_of 43 = .ok (.if_icmp .lt 7, 3) := by decide +kernel
theorem dX12_of_46 : decode cX12_of 46 = .ok (.iconst (-1), 1) := by decide +kernel
theorem dX12_of_47 : decode cX12_of 47 = .ok (.goto 9, 3) := by decide +kernel
theorem dX12_of_50 : decode cX12_of 50 = .ok (.aload_n 0, 1) := by decide +kernel
theorem dX12_of_51 : decode cX12_of 51 = .ok (.iload_n 1, 1) := by decide +kernel
theorem dX12_of_52 : decode cX12_of 52 = .ok (.iload_n 2, 1) := by decide +kernel
theorem dX12_of_53 : decode cX12_of 53 = .ok (.invokevirtual 115, 3) := by decide +kernel
theorem dX12_of_56 : decode cX12_of 56 = .ok (.ireturn, 1) := by decide +kernel
theorem dX12_wheel_0 : decode cX12_wheel 0 = .ok (.aload_n 0, 1) := by decide +kernel
theorem dX12_wheel_1 : decode cX12_wheel 1 = .ok (.iconst 0, 1) := by decide +kernel
theorem dX12_wheel_2 : decode cX12_wheel 2 = .ok (.putfield 88, 3) := by decide +kernel
theorem dX12_wheel_5 : decode cX12_wheel 5 = .ok (.iload_n 1, 1) := by decide +kernel
theorem dX12_wheel_6 : decode cX12_wheel 6 = .ok (.invokestatic 126, 3) := by decide +kernel
theorem dX12_wheel_9 : decode cX12_wheel 9 = .ok (.ifCond .ne 9, 3) := by decide +kernel
theorem dX12_wheel_12 : decode cX12_wheel 12 = .ok (.aload_n 0, 1) := by decide +kernel
theorem dX12_wheel_13 : decode cX12_wheel 13 = .ok (.iconst (-1), 1) := by decide +kernel
theorem dX12_wheel_14 : decode cX12_wheel 14 = .ok (.invokevirtual 102, 3) := by decide +kernel
theorem dX12_wheel_17 : decode cX12_wheel 17 = .ok (.ireturn, 1) := by decide +kernel
theorem dX12_wheel_18 : decode cX12_wheel 18 = .ok (.aload_n 0, 1) := by decide +kernel
theorem dX12_wheel_19 : decode cX12_wheel 19 = .ok (.getfield 13, 3) := by decide +kernel
theorem dX12_wheel_22 : decode cX12_wheel 22 = .ok (.iconst 1, 1) := by decide +kernel
theorem dX12_wheel_23 : decode cX12_wheel 23 = .ok (.iaload, 1) := by decide +kernel
theorem dX12_wheel_24 : decode cX12_wheel 24 = .ok (.istore_n 2, 1) := by decide +kernel
theorem dX12_wheel_25 : decode cX12_wheel 25 = .ok (.iload_n 2, 1) := by decide +kernel
theorem dX12_wheel_26 : decode cX12_wheel 26 = .ok (.bipush 12, 2) := by decide +kernel
theorem dX12_wheel_28 : decode cX12_wheel 28 = .ok (.if_icmp .ne 10, 3) := by decide +kernel
theorem dX12_wheel_31 : decode cX12_wheel 31 = .ok (.aload_n 0, 1) := by decide +kernel
theorem dX12_wheel_32 : decode cX12_wheel 32 = .ok (.bipush (-5), 2) := by decide +kernel
theorem dX12_wheel_34 : decode cX12_wheel 34 = .ok (.invokevirtual 102, 3) := by decide +kernel
theorem dX12_wheel_37 : decode cX12_wheel 37 = .ok (.ireturn, 1) := by decide +kernel
theorem dX12_wheel_38 : decode cX12_wheel 38 = .ok (.aload_n 0, 1) := by decide +kernel
theorem dX12_wheel_39 : decode cX12_wheel 39 = .ok (.getfield 13, 3) := by decide +kernel
theorem dX12_wheel_42 : decode cX12_wheel 42 = .ok (.bipush 82, 2) := by decide +kernel
theorem dX12_wheel_44 : decode cX12_wheel 44 = .ok (.iload_n 2, 1) := by decide +kernel
theorem dX12_wheel_45 : decode cX12_wheel 45 = .ok (.iadd, 1) := by decide +kernel
theorem dX12_wheel_46 : decode cX12_wheel 46 = .ok (.iload_n 1, 1) := by decide +kernel
theorem dX12_wheel_47 : decode cX12_wheel 47 = .ok (.iastore, 1) := by decide +kernel
theorem dX12_wheel_48 : decode cX12_wheel 48 = .ok (.aload_n 0, 1) := by decide +kernel
theorem dX12_wheel_49 : decode cX12_wheel 49 = .ok (.getfield 13, 3) := by decide +kernel
theorem dX12_wheel_52 : decode cX12_wheel 52 = .ok (.iconst 1, 1) := by decide +kernel
theorem dX12_wheel_53 : decode cX12_wheel 53 = .ok (.dup2, 1) := by decide +kernel
theorem dX12_wheel_54 : decode cX12_wheel 54 = .ok (.iaload, 1) := by decide +kernel
theorem dX12_wheel_55 : decode cX12_wheel 55 = .ok (.iconst 1, 1) := by decide +kernel
theorem dX12_wheel_56 : decode cX12_wheel 56 = .ok (.iadd, 1) := by decide +kernel
theorem dX12_wheel_57 : decode cX12_wheel 57 = .ok (.iastore, 1) := by decide +kernel
theorem dX12_wheel_58 : decode cX12_wheel 58 = .ok (.aload_n 0, 1) := by decide +kernel
theorem dX12_wheel_59 : decode cX12_wheel 59 = .ok (.iload_n 2, 1) := by decide +kernel
theorem dX12_wheel_60 : decode cX12_wheel 60 = .ok (.invokevirtual 102, 3) := by decide +kernel
theorem dX12_wheel_63 : decode cX12_wheel 63 = .ok (.ireturn, 1) := by decide +kernel
theorem dX12_isWheel_0 : decode cX12_isWheel 0 = .ok (.iload_n 1, 1) := by decide +kernel
theorem dX12_isWheel_1 : decode cX12_isWheel 1 = .ok (.i2l, 1) := by decide +kernel
theorem dX12_isWheel_2 : decode cX12_isWheel 2 = .ok (.lconst 0, 1) := by decide +kernel
theorem dX12_isWheel_3 : decode cX12_isWheel 3 = .ok (.aload_n 0, 1) := by decide +kernel
theorem dX12_isWheel_4 : decode cX12_isWheel 4 = .ok (.getfield 13, 3) := by decide +kernel
theorem dX12_isWheel_7 : decode cX12_isWheel 7 = .ok (.iconst 1, 1) := by decide +kernel
theorem dX12_isWheel_8 : decode cX12_isWheel 8 = .ok (.iaload, 1) := by decide +kernel
theorem dX12_isWheel_9 : decode cX12_isWheel 9 = .ok (.i2l, 1) := by decide +kernel
theorem dX12_isWheel_10 : decode cX12_isWheel 10 = .ok (.lconst 1, 1) := by decide +kernel
theorem dX12_isWheel_11 : decode cX12_isWheel 11 = .ok (.lsub, 1) := by decide +kernel
theorem dX12_isWheel_12 : decode cX12_isWheel 12 = .ok (.invokestatic 98, 3) := by decide +kernel
theorem dX12_isWheel_15 : decode cX12_isWheel 15 = .ok (.ireturn, 1) := by decide +kernel
theorem dX12_drop_0 : decode cX12_drop 0 = .ok (.aload_n 0, 1) := by decide +kernel
theorem dX12_drop_1 : decode cX12_drop 1 = .ok (.iconst 0, 1) := by decide +kernel
theorem dX12_drop_2 : decode cX12_drop 2 = .ok (.putfield 88, 3) := by decide +kernel
theorem dX12_drop_5 : decode cX12_drop 5 = .ok (.aload_n 0, 1) := by decide +kernel
theorem dX12_drop_6 : decode cX12_drop 6 = .ok (.iload_n 1, 1) := by decide +kernel
theorem dX12_drop_7 : decode cX12_drop 7 = .ok (.invokevirtual 135, 3) := by decide +kernel
theorem dX12_drop_10 : decode cX12_drop 10 = .ok (.ifCond .ne 10, 3) := by decide +kernel
theorem dX12_drop_13 : decode cX12_drop 13 = .ok (.aload_n 0, 1) := by decide +kernel
theorem dX12_drop_14 : decode cX12_drop 14 = .ok (.bipush (-2), 2) := by decide +kernel
theorem dX12_drop_16 : decode cX12_drop 16 = .ok (.invokevirtual 102, 3) := by decide +kernel
theorem dX12_drop_19 : decode cX12_drop 19 = .ok (.ireturn, 1) := by decide +kernel
theorem dX12_drop_20 : decode cX12_drop 20 = .ok (.iload_n 1, 1) := by decide +kernel
theorem dX12_drop_21 : decode cX12_drop 21 = .ok (.istore_n 2, 1) := by decide +kernel
theorem dX12_drop_22 : decode cX12_drop 22 = .ok (.iload_n 2, 1) := by decide +kernel
theorem dX12_drop_23 : decode cX12_drop 23 = .ok (.bipush 11, 2) := by decide +kernel
theorem dX12_drop_25 : decode cX12_drop 25 = .ok (.if_icmp .ge 29, 3) := by decide +kernel
theorem dX12_drop_28 : decode cX12_drop 28 = .ok (.aload_n 0, 1) := by decide +kernel
theorem dX12_drop_29 : decode cX12_drop 29 = .ok (.getfield 13, 3) := by decide +kernel
theorem dX12_drop_32 : decode cX12_drop 32 = .ok (.bipush 82, 2) := by decide +kernel
theorem dX12_drop_34 : decode cX12_drop 34 = .ok (.iload_n 2, 1) := by decide +kernel
theorem dX12_drop_35 : decode cX12_drop 35 = .ok (.iadd, 1) := by decide +kernel
theorem dX12_drop_36 : decode cX12_drop 36 = .ok (.aload_n 0, 1) := by decide +kernel
theorem dX12_drop_37 : decode cX12_drop 37 = .ok (.getfield 13, 3) := by decide +kernel
theorem dX12_drop_40 : decode cX12_drop 40 = .ok (.bipush 82, 2) := by decide +kernel
theorem dX12_drop_42 : decode cX12_drop 42 = .ok (.iload_n 2, 1) := by decide +kernel
theorem dX12_drop_43 : decode cX12_drop 43 = .ok (.iadd, 1) := by decide +kernel
theorem dX12_drop_44 : decode cX12_drop 44 = .ok (.iconst 1, 1) := by decide +kernel
theorem dX12_drop_45 : decode cX12_drop 45 = .ok (.iadd, 1) := by decide +kernel
theorem dX12_drop_46 : decode cX12_drop 46 = .ok (.iaload, 1) := by decide +kernel
theorem dX12_drop_47 : decode cX12_drop 47 = .ok (.iastore, 1) := by decide +kernel
theorem dX12_drop_48 : decode cX12_drop 48 = .ok (.iinc 2 1, 3) := by decide +kernel
theorem dX12_drop_51 : decode cX12_drop 51 = .ok (.goto (-29), 3) := by decide +kernel
theorem dX12_drop_54 : decode cX12_drop 54 = .ok (.aload_n 0, 1) := by decide +kernel
theorem dX12_drop_55 : decode cX12_drop 55 = .ok (.getfield 13, 3) := by decide +kernel
theorem dX12_drop_58 : decode cX12_drop 58 = .ok (.iconst 1, 1) := by decide +kernel
theorem dX12_drop_59 : decode cX12_drop 59 = .ok (.dup2, 1) := by decide +kernel
theorem dX12_drop_60 : decode cX12_drop 60 = .ok (.iaload, 1) := by decide +kernel
theorem dX12_drop_61 : decode cX12_drop 61 = .ok (.iconst 1, 1) := by decide +kernel
theorem dX12_drop_62 : decode cX12_drop 62 = .ok (.isub, 1) := by decide +kernel
theorem dX12_drop_63 : decode cX12_drop 63 = .ok (.iastore, 1) := by decide +kernel
theorem dX12_drop_64 : decode cX12_drop 64 = .ok (.aload_n 0, 1) := by decide +kernel
theorem dX12_drop_65 : decode cX12_drop 65 = .ok (.aload_n 0, 1) := by decide +kernel
theorem dX12_drop_66 : decode cX12_drop 66 = .ok (.getfield 13, 3) := by decide +kernel
theorem dX12_drop_69 : decode cX12_drop 69 = .ok (.iconst 1, 1) := by decide +kernel
theorem dX12_drop_70 : decode cX12_drop 70 = .ok (.iaload, 1) := by decide +kernel
theorem dX12_drop_71 : decode cX12_drop 71 = .ok (.invokevirtual 102, 3) := by decide +kernel
theorem dX12_drop_74 : decode cX12_drop 74 = .ok (.ireturn, 1) := by decide +kernel
theorem dX12_teeth_0 : decode cX12_teeth 0 = .ok (.aload_n 0, 1) := by decide +kernel
theorem dX12_teeth_1 : decode cX12_teeth 1 = .ok (.iconst 0, 1) := by decide +kernel
theorem dX12_teeth_2 : decode cX12_teeth 2 = .ok (.putfield 88, 3) := by decide +kernel
theorem dX12_teeth_5 : decode cX12_teeth 5 = .ok (.aload_n 0, 1) := by decide +kernel
theorem dX12_teeth_6 : decode cX12_teeth 6 = .ok (.iload_n 1, 1) := by decide +kernel
theorem dX12_teeth_7 : decode cX12_teeth 7 = .ok (.invokevirtual 135, 3) := by decide +kernel
theorem dX12_teeth_10 : decode cX12_teeth 10 = .ok (.ifCond .eq 15, 3) := by decide +kernel
theorem dX12_teeth_13 : decode cX12_teeth 13 = .ok (.aload_n 0, 1) := by decide +kernel
theorem dX12_teeth_14 : decode cX12_teeth 14 = .ok (.getfield 13, 3) := by decide +kernel
theorem dX12_teeth_17 : decode cX12_teeth 17 = .ok (.bipush 82, 2) := by decide +kernel
theorem dX12_teeth_19 : decode cX12_teeth 19 = .ok (.iload_n 1, 1) := by decide +kernel
theorem dX12_teeth_20 : decode cX12_teeth 20 = .ok (.iadd, 1) := by decide +kernel
theorem dX12_teeth_21 : decode cX12_teeth 21 = .ok (.iaload, 1) := by decide +kernel
theorem dX12_teeth_22 : decode cX12_teeth 22 = .ok (.goto 4, 3) := by decide +kernel
theorem dX12_teeth_25 : decode cX12_teeth 25 = .ok (.iconst (-1), 1) := by decide +kernel
theorem dX12_teeth_26 : decode cX12_teeth 26 = .ok (.ireturn, 1) := by decide +kernel
theorem dX12_terms_0 : decode cX12_terms 0 = .ok (.aload_n 0, 1) := by decide +kernel
theorem dX12_terms_1 : decode cX12_terms 1 = .ok (.iconst 0, 1) := by decide +kernel
theorem dX12_terms_2 : decode cX12_terms 2 = .ok (.putfield 88, 3) := by decide +kernel
theorem dX12_terms_5 : decode cX12_terms 5 = .ok (.iload_n 1, 1) := by decide +kernel
theorem dX12_terms_6 : decode cX12_terms 6 = .ok (.ifCond .ne 25, 3) := by decide +kernel
theorem dX12_terms_9 : decode cX12_terms 9 = .ok (.iload_n 2, 1) := by decide +kernel
theorem dX12_terms_10 : decode cX12_terms 10 = .ok (.i2l, 1) := by decide +kernel
theorem dX12_terms_11 : decode cX12_terms 11 = .ok (.lconst 1, 1) := by decide +kernel
theorem dX12_terms_12 : decode cX12_terms 12 = .ok (.ldc2_w 105, 3) := by decide +kernel
theorem dX12_terms_15 : decode cX12_terms 15 = .ok (.invokestatic 98, 3) := by decide +kernel
theorem dX12_terms_18 : decode cX12_terms 18 = .ok (.ifCond .eq 13, 3) := by decide +kernel
theorem dX12_terms_21 : decode cX12_terms 21 = .ok (.aload_n 0, 1) := by decide +kernel
theorem dX12_terms_22 : decode cX12_terms 22 = .ok (.bipush 6, 2) := by decide +kernel
theorem dX12_terms_24 : decode cX12_terms 24 = .ok (.iload_n 2, 1) := by decide +kernel
theorem dX12_terms_25 : decode cX12_terms 25 = .ok (.invokevirtual 119, 3) := by decide +kernel
theorem dX12_terms_28 : decode cX12_terms 28 = .ok (.goto 8, 3) := by decide +kernel
theorem dX12_terms_31 : decode cX12_terms 31 = .ok (.aload_n 0, 1) := by decide +kernel
theorem dX12_terms_32 : decode cX12_terms 32 = .ok (.iconst (-1), 1) := by decide +kernel
theorem dX12_terms_33 : decode cX12_terms 33 = .ok (.invokevirtual 102, 3) := by decide +kernel
theorem dX12_terms_36 : decode cX12_terms 36 = .ok (.ireturn, 1) := by decide +kernel
theorem dX12_row_0 : decode cX12_row 0 = .ok (.aload_n 0, 1) := by decide +kernel
theorem dX12_row_1 : decode cX12_row 1 = .ok (.iconst 0, 1) := by decide +kernel
theorem dX12_row_2 : decode cX12_row 2 = .ok (.putfield 88, 3) := by decide +kernel
theorem dX12_row_5 : decode cX12_row 5 = .ok (.aload_n 0, 1) := by decide +kernel
theorem dX12_row_6 : decode cX12_row 6 = .ok (.getfield 138, 3) := by decide +kernel
theorem dX12_row_9 : decode cX12_row 9 = .ok (.istore_n 1, 1) := by decide +kernel
theorem dX12_row_10 : decode cX12_row 10 = .ok (.aload_n 0, 1) := by decide +kernel
theorem dX12_row_11 : decode cX12_row 11 = .ok (.iconst 0, 1) := by decide +kernel
theorem dX12_row_12 : decode cX12_row 12 = .ok (.putfield 138, 3) := by decide +kernel
theorem dX12_row_15 : decode cX12_row 15 = .ok (.iload_n 1, 1) := by decide +kernel
theorem dX12_row_16 : decode cX12_row 16 = .ok (.ifCond .ne 10, 3) := by decide +kernel
theorem dX12_row_19 : decode cX12_row 19 = .ok (.aload_n 0, 1) := by decide +kernel
theorem dX12_row_20 : decode cX12_row 20 = .ok (.bipush (-6), 2) := by decide +kernel
theorem dX12_row_22 : decode cX12_row 22 = .ok (.invokevirtual 102, 3) := by decide +kernel
theorem dX12_row_25 : decode cX12_row 25 = .ok (.ireturn, 1) := by decide +kernel
theorem dX12_row_26 : decode cX12_row 26 = .ok (.aload_n 0, 1) := by decide +kernel
theorem dX12_row_27 : decode cX12_row 27 = .ok (.iconst 0, 1) := by decide +kernel
theorem dX12_row_28 : decode cX12_row 28 = .ok (.putfield 141, 3) := by decide +kernel
theorem dX12_row_31 : decode cX12_row 31 = .ok (.iconst 0, 1) := by decide +kernel
theorem dX12_row_32 : decode cX12_row 32 = .ok (.istore_n 2, 1) := by decide +kernel
theorem dX12_row_33 : decode cX12_row 33 = .ok (.iconst 0, 1) := by decide +kernel
theorem dX12_row_34 : decode cX12_row 34 = .ok (.istore_n 3, 1) := by decide +kernel
theorem dX12_row_35 : decode cX12_row 35 = .ok (.iload_n 3, 1) := by decide +kernel
theorem dX12_row_36 : decode cX12_row 36 = .ok (.iload_n 1, 1) := by decide +kernel
theorem dX12_row_37 : decode cX12_row 37 = .ok (.if_icmp .ge 78, 3) := by decide +kernel
theorem dX12_row_40 : decode cX12_row 40 = .ok (.aload_n 0, 1) := by decide +kernel
theorem dX12_row_41 : decode cX12_row 41 = .ok (.getfield 23, 3) := by decide +kernel
theorem dX12_row_44 : decode cX12_row 44 = .ok (.iload_n 3, 1) := by decide +kernel
theorem dX12_row_45 : decode cX12_row 45 = .ok (.iaload, 1) := by decide +kernel
theorem dX12_row_46 : decode cX12_row 46 = .ok (.invokestatic 126, 3) := by decide +kernel
theorem dX12_row_49 : decode cX12_row 49 = .ok (.ifCond .eq 50, 3) := by decide +kernel
theorem dX12_row_52 : decode cX12_row 52 = .ok (.aload_n 0, 1) := by decide +kernel
theorem dX12_row_53 : decode cX12_row 53 = .ok (.getfield 13, 3) := by decide +kernel
theorem dX12_row_56 : decode cX12_row 56 = .ok (.iconst 1, 1) := by decide +kernel
theorem dX12_row_57 : decode cX12_row 57 = .ok (.iaload, 1) := by decide +kernel
theorem dX12_row_58 : decode cX12_row 58 = .ok (.bipush 12, 2) := by decide +kernel
theorem dX12_row_60 : decode cX12_row 60 = .ok (.if_icmp .ge 39, 3) := by decide +kernel
theorem dX12_row_63 : decode cX12_row 63 = .ok (.aload_n 0, 1) := by decide +kernel
theorem dX12_row_64 : decode cX12_row 64 = .ok (.getfield 13, 3) := by decide +kernel
theorem dX12_row_67 : decode cX12_row 67 = .ok (.bipush 82, 2) := by decide +kernel
theorem dX12_row_69 : decode cX12_row 69 = .ok (.aload_n 0, 1) := by decide +kernel
theorem dX12_row_70 : decode cX12_row 70 = .ok (.getfield 13, 3) := by decide +kernel
theorem dX12_row_73 : decode cX12_row 73 = .ok (.iconst 1, 1) := by decide +kernel
theorem dX12_row_74 : decode cX12_row 74 = .ok (.iaload, 1) := by decide +kernel
theorem dX12_row_75 : decode cX12_row 75 = .ok (.iadd, 1) := by decide +kernel
theorem dX12_row_76 : decode cX12_row 76 = .ok (.aload_n 0, 1) := by decide +kernel
theorem dX12_row_77 : decode cX12_row 77 = .ok (.getfield 23, 3) := by decide +kernel
theorem dX12_row_80 : decode cX12_row 80 = .ok (.iload_n 3, 1) := by decide +kernel
theorem dX12_row_81 : decode cX12_row 81 = .ok (.iaload, 1) := by decide +kernel
theorem dX12_row_82 : decode cX12_row 82 = .ok (.iastore, 1) := by decide +kernel
theorem dX12_row_83 : decode cX12_row 83 = .ok (.aload_n 0, 1) := by decide +kernel
theorem dX12_row_84 : decode cX12_row 84 = .ok (.getfield 13, 3) := by decide +kernel
theorem dX12_row_87 : decode cX12_row 87 = .ok (.iconst 1, 1) := by decide +kernel
theorem dX12_row_88 : decode cX12_row 88 = .ok (.dup2, 1) := by decide +kernel
theorem dX12_row_89 : decode cX12_row 89 = .ok (.iaload, 1) := by decide +kernel
theorem dX12_row_90 : decode cX12_row 90 = .ok (.iconst 1, 1) := by decide +kernel
theorem dX12_row_91 : decode cX12_row 91 = .ok (.iadd, 1) := by decide +kernel
theorem dX12_row_92 : decode cX12_row 92 = .ok (.iastore, 1) := by decide +kernel
theorem dX12_row_93 : decode cX12_row 93 = .ok (.iinc 2 1, 3) := by decide +kernel
theorem dX12_row_96 : decode cX12_row 96 = .ok (.goto 13, 3) := by decide +kernel
theorem dX12_row_99 : decode cX12_row 99 = .ok (.aload_n 0, 1) := by decide +kernel
theorem dX12_row_100 : decode cX12_row 100 = .ok (.dup, 1) := by decide +kernel
theorem dX12_row_101 : decode cX12_row 101 = .ok (.getfield 141, 3) := by decide +kernel
theorem dX12_row_104 : decode cX12_row 104 = .ok (.iconst 1, 1) := by decide +kernel
theorem dX12_row_105 : decode cX12_row 105 = .ok (.iadd, 1) := by decide +kernel
theorem dX12_row_106 : decode cX12_row 106 = .ok (.putfield 141, 3) := by decide +kernel
theorem dX12_row_109 : decode cX12_row 109 = .ok (.iinc 3 1, 3) := by decide +kernel
theorem dX12_row_112 : decode cX12_row 112 = .ok (.goto (-77), 3) := by decide +kernel
theorem dX12_row_115 : decode cX12_row 115 = .ok (.aload_n 0, 1) := by decide +kernel
theorem dX12_row_116 : decode cX12_row 116 = .ok (.iload_n 2, 1) := by decide +kernel
theorem dX12_row_117 : decode cX12_row 117 = .ok (.invokevirtual 102, 3) := by decide +kernel
theorem dX12_row_120 : decode cX12_row 120 = .ok (.ireturn, 1) := by decide +kernel
theorem dX12_bent_0 : decode cX12_bent 0 = .ok (.aload_n 0, 1) := by decide +kernel
theorem dX12_bent_1 : decode cX12_bent 1 = .ok (.iconst 0, 1) := by decide +kernel
theorem dX12_bent_2 : decode cX12_bent 2 = .ok (.putfield 88, 3) := by decide +kernel
theorem dX12_bent_5 : decode cX12_bent 5 = .ok (.aload_n 0, 1) := by decide +kernel
theorem dX12_bent_6 : decode cX12_bent 6 = .ok (.getfield 141, 3) := by decide +kernel
theorem dX12_bent_9 : decode cX12_bent 9 = .ok (.ireturn, 1) := by decide +kernel
theorem dX12_four_0 : decode cX12_four 0 = .ok (.bipush 24, 2) := by decide +kernel
theorem dX12_four_2 : decode cX12_four 2 = .ok (.istore_n 2, 1) := by decide +kernel
theorem dX12_four_3 : decode cX12_four 3 = .ok (.iload_n 2, 1) := by decide +kernel
theorem dX12_four_4 : decode cX12_four 4 = .ok (.ifCond .lt 35, 3) := by decide +kernel
theorem dX12_four_7 : decode cX12_four 7 = .ok (.aload_n 0, 1) := by decide +kernel
theorem dX12_four_8 : decode cX12_four 8 = .ok (.getfield 23, 3) := by decide +kernel
theorem dX12_four_11 : decode cX12_four 11 = .ok (.aload_n 0, 1) := by decide +kernel
theorem dX12_four_12 : decode cX12_four 12 = .ok (.getfield 138, 3) := by decide +kernel
theorem dX12_four_15 : decode cX12_four 15 = .ok (.iload_n 1, 1) := by decide +kernel
theorem dX12_four_16 : decode cX12_four 16 = .ok (.iload_n 2, 1) := by decide +kernel
theorem dX12_four_17 : decode cX12_four 17 = .ok (.ishr, 1) := by decide +kernel
theorem dX12_four_18 : decode cX12_four 18 = .ok (.sipush 255, 3) := by decide +kernel
theorem dX12_four_21 : decode cX12_four 21 = .ok (.iand, 1) := by decide +kernel
theorem dX12_four_22 : decode cX12_four 22 = .ok (.iastore, 1) := by decide +kernel
theorem dX12_four_23 : decode cX12_four 23 = .ok (.aload_n 0, 1) := by decide +kernel
theorem dX12_four_24 : decode cX12_four 24 = .ok (.dup, 1) := by decide +kernel
theorem dX12_four_25 : decode cX12_four 25 = .ok (.getfield 138, 3) := by decide +kernel
theorem dX12_four_28 : decode cX12_four 28 = .ok (.iconst 1, 1) := by decide +kernel
theorem dX12_four_29 : decode cX12_four 29 = .ok (.iadd, 1) := by decide +kernel
theorem dX12_four_30 : decode cX12_four 30 = .ok (.putfield 138, 3) := by decide +kernel
theorem dX12_four_33 : decode cX12_four 33 = .ok (.iinc 2 (-8), 3) := by decide +kernel
theorem dX12_four_36 : decode cX12_four 36 = .ok (.goto (-33), 3) := by decide +kernel
theorem dX12_four_39 : decode cX12_four 39 = .ok (.return_, 1) := by decide +kernel
theorem dX12_feed_0 : decode cX12_feed 0 = .ok (.aload_n 0, 1) := by decide +kernel
theorem dX12_feed_1 : decode cX12_feed 1 = .ok (.iconst 0, 1) := by decide +kernel
theorem dX12_feed_2 : decode cX12_feed 2 = .ok (.putfield 88, 3) := by decide +kernel
theorem dX12_feed_5 : decode cX12_feed 5 = .ok (.aload_n 0, 1) := by decide +kernel
theorem dX12_feed_6 : decode cX12_feed 6 = .ok (.getfield 138, 3) := by decide +kernel
theorem dX12_feed_9 : decode cX12_feed 9 = .ok (.bipush 20, 2) := by decide +kernel
theorem dX12_feed_11 : decode cX12_feed 11 = .ok (.iadd, 1) := by decide +kernel
theorem dX12_feed_12 : decode cX12_feed 12 = .ok (.sipush 400, 3) := by decide +kernel
theorem dX12_feed_15 : decode cX12_feed 15 = .ok (.if_icmp .le 5, 3) := by decide +kernel
theorem dX12_feed_18 : decode cX12_feed 18 = .ok (.iconst (-1), 1) := by decide +kernel
theorem dX12_feed_19 : decode cX12_feed 19 = .ok (.ireturn, 1) := by decide +kernel
theorem dX12_feed_20 : decode cX12_feed 20 = .ok (.aload_n 0, 1) := by decide +kernel
theorem dX12_feed_21 : decode cX12_feed 21 = .ok (.iload_n 1, 1) := by decide +kernel
theorem dX12_feed_22 : decode cX12_feed 22 = .ok (.invokevirtual 144, 3) := by decide +kernel
theorem dX12_feed_25 : decode cX12_feed 25 = .ok (.aload_n 0, 1) := by decide +kernel
theorem dX12_feed_26 : decode cX12_feed 26 = .ok (.iload_n 2, 1) := by decide +kernel
theorem dX12_feed_27 : decode cX12_feed 27 = .ok (.invokevirtual 144, 3) := by decide +kernel
theorem dX12_feed_30 : decode cX12_feed 30 = .ok (.aload_n 0, 1) := by decide +kernel
theorem dX12_feed_31 : decode cX12_feed 31 = .ok (.iload_n 3, 1) := by decide +kernel
theorem dX12_feed_32 : decode cX12_feed 32 = .ok (.invokevirtual 144, 3) := by decide +kernel
theorem dX12_feed_35 : decode cX12_feed 35 = .ok (.aload_n 0, 1) := by decide +kernel
theorem dX12_feed_36 : decode cX12_feed 36 = .ok (.iload 4, 2) := by decide +kernel
theorem dX12_feed_38 : decode cX12_feed 38 = .ok (.invokevirtual 144, 3) := by decide +kernel
theorem dX12_feed_41 : decode cX12_feed 41 = .ok (.aload_n 0, 1) := by decide +kernel
theorem dX12_feed_42 : decode cX12_feed 42 = .ok (.iload 5, 2) := by decide +kernel
theorem dX12_feed_44 : decode cX12_feed 44 = .ok (.invokevirtual 144, 3) := by decide +kernel
theorem dX12_feed_47 : decode cX12_feed 47 = .ok (.aload_n 0, 1) := by decide +kernel
theorem dX12_feed_48 : decode cX12_feed 48 = .ok (.getfield 138, 3) := by decide +kernel
theorem dX12_feed_51 : decode cX12_feed 51 = .ok (.ireturn, 1) := by decide +kernel
theorem dX12_end_0 : decode cX12_end 0 = .ok (.aload_n 0, 1) := by decide +kernel
theorem dX12_end_1 : decode cX12_end 1 = .ok (.iconst 0, 1) := by decide +kernel
theorem dX12_end_2 : decode cX12_end 2 = .ok (.putfield 88, 3) := by decide +kernel
theorem dX12_end_5 : decode cX12_end 5 = .ok (.iload_n 1, 1) := by decide +kernel
theorem dX12_end_6 : decode cX12_end 6 = .ok (.ifCond .lt 11, 3) := by decide +kernel
theorem dX12_end_9 : decode cX12_end 9 = .ok (.iload_n 1, 1) := by decide +kernel
theorem dX12_end_10 : decode cX12_end 10 = .ok (.aload_n 0, 1) := by decide +kernel
theorem dX12_end_11 : decode cX12_end 11 = .ok (.getfield 138, 3) := by decide +kernel
theorem dX12_end_14 : decode cX12_end 14 = .ok (.if_icmp .le 5, 3) := by decide +kernel
theorem dX12_end_17 : decode cX12_end 17 = .ok (.iconst (-1), 1) := by decide +kernel
theorem dX12_end_18 : decode cX12_end 18 = .ok (.ireturn, 1) := by decide +kernel
theorem dX12_end_19 : decode cX12_end 19 = .ok (.aload_n 0, 1) := by decide +kernel
theorem dX12_end_20 : decode cX12_end 20 = .ok (.iload_n 1, 1) := by decide +kernel
theorem dX12_end_21 : decode cX12_end 21 = .ok (.putfield 138, 3) := by decide +kernel
theorem dX12_end_24 : decode cX12_end 24 = .ok (.iload_n 1, 1) := by decide +kernel
theorem dX12_end_25 : decode cX12_end 25 = .ok (.ireturn, 1) := by decide +kernel
theorem dX12_isSmall_0 : decode cX12_isSmall 0 = .ok (.iload_n 0, 1) := by decide +kernel
theorem dX12_isSmall_1 : decode cX12_isSmall 1 = .ok (.bipush 97, 2) := by decide +kernel
theorem dX12_isSmall_3 : decode cX12_isSmall 3 = .ok (.if_icmp .lt 13, 3) := by decide +kernel
theorem dX12_isSmall_6 : decode cX12_isSmall 6 = .ok (.iload_n 0, 1) := by decide +kernel
theorem dX12_isSmall_7 : decode cX12_isSmall 7 = .ok (.bipush 122, 2) := by decide +kernel
theorem dX12_isSmall_9 : decode cX12_isSmall 9 = .ok (.if_icmp .gt 7, 3) := by decide +kernel
theorem dX12_isSmall_12 : decode cX12_isSmall 12 = .ok (.iconst 1, 1) := by decide +kernel
theorem dX12_isSmall_13 : decode cX12_isSmall 13 = .ok (.goto 4, 3) := by decide +kernel
theorem dX12_isSmall_16 : decode cX12_isSmall 16 = .ok (.iconst 0, 1) := by decide +kernel
theorem dX12_isSmall_17 : decode cX12_isSmall 17 = .ok (.ireturn, 1) := by decide +kernel
theorem dX12_isDigit_0 : decode cX12_isDigit 0 = .ok (.iload_n 0, 1) := by decide +kernel
theorem dX12_isDigit_1 : decode cX12_isDigit 1 = .ok (.bipush 48, 2) := by decide +kernel
theorem dX12_isDigit_3 : decode cX12_isDigit 3 = .ok (.if_icmp .lt 13, 3) := by decide +kernel
theorem dX12_isDigit_6 : decode cX12_isDigit 6 = .ok (.iload_n 0, 1) := by decide +kernel
theorem dX12_isDigit_7 : decode cX12_isDigit 7 = .ok (.bipush 57, 2) := by decide +kernel
theorem dX12_isDigit_9 : decode cX12_isDigit 9 = .ok (.if_icmp .gt 7, 3) := by decide +kernel
theorem dX12_isDigit_12 : decode cX12_isDigit 12 = .ok (.iconst 1, 1) := by decide +kernel
theorem dX12_isDigit_13 : decode cX12_isDigit 13 = .ok (.goto 4, 3) := by decide +kernel
theorem dX12_isDigit_16 : decode cX12_isDigit 16 = .ok (.iconst 0, 1) := by decide +kernel
theorem dX12_isDigit_17 : decode cX12_isDigit 17 = .ok (.ireturn, 1) := by decide +kernel
theorem dX12_begin_0 : decode cX12_begin 0 = .ok (.aload_n 0, 1) := by decide +kernel
theorem dX12_begin_1 : decode cX12_begin 1 = .ok (.iconst 0, 1) := by decide +kernel
theorem dX12_begin_2 : decode cX12_begin 2 = .ok (.putfield 148, 3) := by decide +kernel
theorem dX12_begin_5 : decode cX12_begin 5 = .ok (.aload_n 0, 1) := by decide +kernel
theorem dX12_begin_6 : decode cX12_begin 6 = .ok (.iconst 0, 1) := by decide +kernel
theorem dX12_begin_7 : decode cX12_begin 7 = .ok (.putfield 151, 3) := by decide +kernel
theorem dX12_begin_10 : decode cX12_begin 10 = .ok (.aload_n 0, 1) := by decide +kernel
theorem dX12_begin_11 : decode cX12_begin 11 = .ok (.iconst (-1), 1) := by decide +kernel
theorem dX12_begin_12 : decode cX12_begin 12 = .ok (.putfield 26, 3) := by decide +kernel
theorem dX12_begin_15 : decode cX12_begin 15 = .ok (.aload_n 0, 1) := by decide +kernel
theorem dX12_begin_16 : decode cX12_begin 16 = .ok (.invokevirtual 155, 3) := by decide +kernel
theorem dX12_begin_19 : decode cX12_begin 19 = .ok (.return_, 1) := by decide +kernel
theorem dX12_next_0 : decode cX12_next 0 = .ok (.aload_n 0, 1) := by decide +kernel
theorem dX12_next_1 : decode cX12_next 1 = .ok (.aload_n 0, 1) := by decide +kernel
theorem dX12_next_2 : decode cX12_next 2 = .ok (.getfield 148, 3) := by decide +kernel
theorem dX12_next_5 : decode cX12_next 5 = .ok (.putfield 158, 3) := by decide +kernel
theorem dX12_next_8 : decode cX12_next 8 = .ok (.aload_n 0, 1) := by decide +kernel
theorem dX12_next_9 : decode cX12_next 9 = .ok (.getfield 158, 3) := by decide +kernel
theorem dX12_next_12 : decode cX12_next 12 = .ok (.aload_n 0, 1) := by decide +kernel
theorem dX12_next_13 : decode cX12_next 13 = .ok (.getfield 138, 3) := by decide +kernel
theorem dX12_next_16 : decode cX12_next 16 = .ok (.if_icmp .ge 30, 3) := by decide +kernel
theorem dX12_next_19 : decode cX12_next 19 = .ok (.aload_n 0, 1) := by decide +kernel
theorem dX12_next_20 : decode cX12_next 20 = .ok (.getfield 23, 3) := by decide +kernel
theorem dX12_next_23 : decode cX12_next 23 = .ok (.aload_n 0, 1) := by decide +kernel
theorem dX12_next_24 : decode cX12_next 24 = .ok (.getfield 158, 3) := by decide +kernel
theorem dX12_next_27 : decode cX12_next 27 = .ok (.iaload, 1) := by decide +kernel
theorem dX12_next_28 : decode cX12_next 28 = .ok (.bipush 32, 2) := by decide +kernel
theorem dX12_next_30 : decode cX12_next 30 = .ok (.if_icmp .ne 16, 3) := by decide +kernel
theorem dX12_next_33 : decode cX12_next 33 = .ok (.aload_n 0, 1) := by decide +kernel
theorem dX12_next_34 : decode cX12_next 34 = .ok (.dup, 1) := by decide +kernel
theorem dX12_next_35 : decode cX12_next 35 = .ok (.getfield 158, 3) := by decide +kernel
theorem dX12_next_38 : decode cX12_next 38 = .ok (.iconst 1, 1) := by decide +kernel
theorem dX12_next_39 : decode cX12_next 39 = .ok (.iadd, 1) := by decide +kernel
theorem dX12_next_40 : decode cX12_next 40 = .ok (.putfield 158, 3) := by decide +kernel
theorem dX12_next_43 : decode cX12_next 43 = .ok (.goto (-35), 3) := by decide +kernel
theorem dX12_next_46 : decode cX12_next 46 = .ok (.aload_n 0, 1) := by decide +kernel
theorem dX12_next_47 : decode cX12_next 47 = .ok (.aload_n 0, 1) := by decide +kernel
theorem dX12_next_48 : decode cX12_next 48 = .ok (.getfield 158, 3) := by decide +kernel
theorem dX12_next_51 : decode cX12_next 51 = .ok (.putfield 148, 3) := by decide +kernel
theorem dX12_next_54 : decode cX12_next 54 = .ok (.aload_n 0, 1) := by decide +kernel
theorem dX12_next_55 : decode cX12_next 55 = .ok (.lconst 0, 1) := by decide +kernel
theorem dX12_next_56 : decode cX12_next 56 = .ok (.putfield 161, 3) := by decide +kernel
theorem dX12_next_59 : decode cX12_next 59 = .ok (.aload_n 0, 1) := by decide +kernel
theorem dX12_next_60 : decode cX12_next 60 = .ok (.aload_n 0, 1) := by decide +kernel
theorem dX12_next_61 : decode cX12_next 61 = .ok (.getfield 158, 3) := by decide +kernel
theorem dX12_next_64 : decode cX12_next 64 = .ok (.aload_n 0, 1) := by decide +kernel
theorem dX12_next_65 : decode cX12_next 65 = .ok (.getfield 138, 3) := by decide +kernel
theorem dX12_next_68 : decode cX12_next 68 = .ok (.if_icmp .ne 7, 3) := by decide +kernel
theorem dX12_next_71 : decode cX12_next 71 = .ok (.iconst 0, 1) := by decide +kernel
theorem dX12_next_72 : decode cX12_next 72 = .ok (.goto 42, 3) := by decide +kernel
theorem dX12_next_75 : decode cX12_next 75 = .ok (.aload_n 0, 1) := by decide +kernel
theorem dX12_next_76 : decode cX12_next 76 = .ok (.getfield 23, 3) := by decide +kernel
theorem dX12_next_79 : decode cX12_next 79 = .ok (.aload_n 0, 1) := by decide +kernel
theorem dX12_next_80 : decode cX12_next 80 = .ok (.getfield 158, 3) := by decide +kernel
theorem dX12_next_83 : decode cX12_next 83 = .ok (.iaload, 1) := by decide +kernel
theorem dX12_next_84 : decode cX12_next 84 = .ok (.invokestatic 165, 3) := by decide +kernel
theorem dX12_next_87 : decode cX12_next 87 = .ok (.ifCond .eq 7, 3) := by decide +kernel
theorem dX12_next_90 : decode cX12_next 90 = .ok (.iconst 1, 1) := by decide +kernel
theorem dX12_next_91 : decode cX12_next 91 = .ok (.goto 23, 3) := by decide +kernel
theorem dX12_next_94 : decode cX12_next 94 = .ok (.aload_n 0, 1) := by decide +kernel
theorem dX12_next_95 : decode cX12_next 95 = .ok (.getfield 23, 3) := by decide +kernel
theorem dX12_next_98 : decode cX12_next 98 = .ok (.aload_n 0, 1) := by decide +kernel
theorem dX12_next_99 : decode cX12_next 99 = .ok (.getfield 158, 3) := by decide +kernel
theorem dX12_next_102 : decode cX12_next 102 = .ok (.iaload, 1) := by decide +kernel
theorem dX12_next_103 : decode cX12_next 103 = .ok (.invokestatic 168, 3) := by decide +kernel
theorem dX12_next_106 : decode cX12_next 106 = .ok (.ifCond .eq 7, 3) := by decide +kernel
theorem dX12_next_109 : decode cX12_next 109 = .ok (.iconst 2, 1) := by decide +kernel
theorem dX12_next_110 : decode cX12_next 110 = .ok (.goto 4, 3) := by decide +kernel
theorem dX12_next_113 : decode cX12_next 113 = .ok (.iconst 3, 1) := by decide +kernel
theorem dX12_next_114 : decode cX12_next 114 = .ok (.putfield 171, 3) := by decide +kernel
theorem dX12_next_117 : decode cX12_next 117 = .ok (.aload_n 0, 1) := by decide +kernel
theorem dX12_next_118 : decode cX12_next 118 = .ok (.getfield 171, 3) := by decide +kernel
theorem dX12_next_121 : decode cX12_next 121 = .ok (.iconst 3, 1) := by decide +kernel
theorem dX12_next_122 : decode cX12_next 122 = .ok (.if_icmp .ne 27, 3) := by decide +kernel
theorem dX12_next_125 : decode cX12_next 125 = .ok (.aload_n 0, 1) := by decide +kernel
theorem dX12_next_126 : decode cX12_next 126 = .ok (.aload_n 0, 1) := by decide +kernel
theorem dX12_next_127 : decode cX12_next 127 = .ok (.getfield 23, 3) := by decide +kernel
theorem dX12_next_130 : decode cX12_next 130 = .ok (.aload_n 0, 1) := by decide +kernel
theorem dX12_next_131 : decode cX12_next 131 = .ok (.getfield 158, 3) := by decide +kernel
theorem dX12_next_134 : decode cX12_next 134 = .ok (.iaload, 1) := by decide +kernel
theorem dX12_next_135 : decode cX12_next 135 = .ok (.i2l, 1) := by decide +kernel
theorem dX12_next_136 : decode cX12_next 136 = .ok (.putfield 161, 3) := by decide +kernel
theorem dX12_next_139 : decode cX12_next 139 = .ok (.aload_n 0, 1) := by decide +kernel
theorem dX12_next_140 : decode cX12_next 140 = .ok (.dup, 1) := by decide +kernel
theorem dX12_next_141 : decode cX12_next 141 = .ok (.getfield 148, 3) := by decide +kernel
theorem dX12_next_144 : decode cX12_next 144 = .ok (.iconst 1, 1) := by decide +kernel
theorem dX12_next_145 : decode cX12_next 145 = .ok (.iadd, 1) := by decide +kernel
theorem dX12_next_146 : decode cX12_next 146 = .ok (.putfield 148, 3) := by decide +kernel
theorem dX12_next_149 : decode cX12_next 149 = .ok (.aload_n 0, 1) := by decide +kernel
theorem dX12_next_150 : decode cX12_next 150 = .ok (.getfield 171, 3) := by decide +kernel
theorem dX12_next_153 : decode cX12_next 153 = .ok (.iconst 1, 1) := by decide +kernel
theorem dX12_next_154 : decode cX12_next 154 = .ok (.if_icmp .ne 89, 3) := by decide +kernel
theorem dX12_next_157 : decode cX12_next 157 = .ok (.aload_n 0, 1) := by decide +kernel
theorem dX12_next_158 : decode cX12_next 158 = .ok (.getfield 148, 3) := by decide +kernel
theorem dX12_next_161 : decode cX12_next 161 = .ok (.aload_n 0, 1) := by decide +kernel
theorem dX12_next_162 : decode cX12_next 162 = .ok (.getfield 138, 3) := by decide +kernel
theorem dX12_next_165 : decode cX12_next 165 = .ok (.if_icmp .ge 78, 3) := by decide +kernel
theorem dX12_next_168 : decode cX12_next 168 = .ok (.aload_n 0, 1) := by decide +kernel
theorem dX12_next_169 : decode cX12_next 169 = .ok (.getfield 23, 3) := by decide +kernel
theorem dX12_next_172 : decode cX12_next 172 = .ok (.aload_n 0, 1) := by decide +kernel
theorem dX12_next_173 : decode cX12_next 173 = .ok (.getfield 148, 3) := by decide +kernel
theorem dX12_next_176 : decode cX12_next 176 = .ok (.iaload, 1) := by decide +kernel
theorem dX12_next_177 : decode cX12_next 177 = .ok (.invokestatic 165, 3) := by decide +kernel
theorem dX12_next_180 : decode cX12_next 180 = .ok (.ifCond .eq 63, 3) := by decide +kernel
theorem dX12_next_183 : decode cX12_next 183 = .ok (.aload_n 0, 1) := by decide +kernel
theorem dX12_next_184 : decode cX12_next 184 = .ok (.aload_n 0, 1) := by decide +kernel
theorem dX12_next_185 : decode cX12_next 185 = .ok (.getfield 148, 3) := by decide +kernel
theorem dX12_next_188 : decode cX12_next 188 = .ok (.aload_n 0, 1) := by decide +kernel
theorem dX12_next_189 : decode cX12_next 189 = .ok (.getfield 158, 3) := by decide +kernel
theorem dX12_next_192 : decode cX12_next 192 = .ok (.isub, 1) := by decide +kernel
theorem dX12_next_193 : decode cX12_next 193 = .ok (.bipush 10, 2) := by decide +kernel
theorem dX12_next_195 : decode cX12_next 195 = .ok (.if_icmp .ge 29, 3) := by decide +kernel
theorem dX12_next_198 : decode cX12_next 198 = .ok (.aload_n 0, 1) := by decide +kernel
theorem dX12_next_199 : decode cX12_next 199 = .ok (.getfield 161, 3) := by decide +kernel
theorem dX12_next_202 : decode cX12_next 202 = .ok (.ldc2_w 174, 3) := by decide +kernel
theorem dX12_next_205 : decode cX12_next 205 = .ok (.lmul, 1) := by decide +kernel
theorem dX12_next_206 : decode cX12_next 206 = .ok (.aload_n 0, 1) := by decide +kernel
theorem dX12_next_207 : decode cX12_next 207 = .ok (.getfield 23, 3) := by decide +kernel
theorem dX12_next_210 : decode cX12_next 210 = .ok (.aload_n 0, 1) := by decide +kernel
theorem dX12_next_211 : decode cX12_next 211 = .ok (.getfield 148, 3) := by decide +kernel
theorem dX12_next_214 : decode cX12_next 214 = .ok (.iaload, 1) := by decide +kernel
theorem dX12_next_215 : decode cX12_next 215 = .ok (.i2l, 1) := by decide +kernel
theorem dX12_next_216 : decode cX12_next 216 = .ok (.ladd, 1) := by decide +kernel
theorem dX12_next_217 : decode cX12_next 217 = .ok (.ldc2_w 176, 3) := by decide +kernel
theorem dX12_next_220 : decode cX12_next 220 = .ok (.lsub, 1) := by decide +kernel
theorem dX12_next_221 : decode cX12_next 221 = .ok (.goto 6, 3) := by decide +kernel
theorem dX12_next_224 : decode cX12_next 224 = .ok (.ldc2_w 178, 3) := by decide +kernel
theorem dX12_next_227 : decode cX12_next 227 = .ok (.putfield 161, 3) := by decide +kernel
theorem dX12_next_230 : decode cX12_next 230 = .ok (.aload_n 0, 1) := by decide +kernel
theorem dX12_next_231 : decode cX12_next 231 = .ok (.dup, 1) := by decide +kernel
theorem dX12_next_232 : decode cX12_next 232 = .ok (.getfield 148, 3) := by decide +kernel
theorem dX12_next_235 : decode cX12_next 235 = .ok (.iconst 1, 1) := by decide +kernel
theorem dX12_next_236 : decode cX12_next 236 = .ok (.iadd, 1) := by decide +kernel
theorem dX12_next_237 : decode cX12_next 237 = .ok (.putfield 148, 3) := by decide +kernel
theorem dX12_next_240 : decode cX12_next 240 = .ok (.goto (-91), 3) := by decide +kernel
theorem dX12_next_243 : decode cX12_next 243 = .ok (.aload_n 0, 1) := by decide +kernel
theorem dX12_next_244 : decode cX12_next 244 = .ok (.getfield 171, 3) := by decide +kernel
theorem dX12_next_247 : decode cX12_next 247 = .ok (.iconst 2, 1) := by decide +kernel
theorem dX12_next_248 : decode cX12_next 248 = .ok (.if_icmp .ne 87, 3) := by decide +kernel
theorem dX12_next_251 : decode cX12_next 251 = .ok (.aload_n 0, 1) := by decide +kernel
theorem dX12_next_252 : decode cX12_next 252 = .ok (.getfield 148, 3) := by decide +kernel
theorem dX12_next_255 : decode cX12_next 255 = .ok (.aload_n 0, 1) := by decide +kernel
theorem dX12_next_256 : decode cX12_next 256 = .ok (.getfield 138, 3) := by decide +kernel
theorem dX12_next_259 : decode cX12_next 259 = .ok (.if_icmp .ge 76, 3) := by decide +kernel
theorem dX12_next_262 : decode cX12_next 262 = .ok (.aload_n 0, 1) := by decide +kernel
theorem dX12_next_263 : decode cX12_next 263 = .ok (.getfield 23, 3) := by decide +kernel
theorem dX12_next_266 : decode cX12_next 266 = .ok (.aload_n 0, 1) := by decide +kernel
theorem dX12_next_267 : decode cX12_next 267 = .ok (.getfield 148, 3) := by decide +kernel
theorem dX12_next_270 : decode cX12_next 270 = .ok (.iaload, 1) := by decide +kernel
theorem dX12_next_271 : decode cX12_next 271 = .ok (.invokestatic 168, 3) := by decide +kernel
theorem dX12_next_274 : decode cX12_next 274 = .ok (.ifCond .eq 61, 3) := by decide +kernel
theorem dX12_next_277 : decode cX12_next 277 = .ok (.aload_n 0, 1) := by decide +kernel
theorem dX12_next_278 : decode cX12_next 278 = .ok (.aload_n 0, 1) := by decide +kernel
theorem dX12_next_279 : decode cX12_next 279 = .ok (.getfield 161, 3) := by decide +kernel
theorem dX12_next_282 : decode cX12_next 282 = .ok (.ldc2_w 105, 3) := by decide +kernel
theorem dX12_next_285 : decode cX12_next 285 = .ok (.lcmp, 1) := by decide +kernel
theorem dX12_next_286 : decode cX12_next 286 = .ok (.ifCond .le 10, 3) := by decide +kernel
theorem dX12_next_289 : decode cX12_next 289 = .ok (.aload_n 0, 1) := by decide +kernel
theorem dX12_next_290 : decode cX12_next 290 = .ok (.getfield 161, 3) := by decide +kernel
theorem dX12_next_293 : decode cX12_next 293 = .ok (.goto 26, 3) := by decide +kernel
theorem dX12_next_296 : decode cX12_next 296 = .ok (.aload_n 0, 1) := by decide +kernel
theorem dX12_next_297 : decode cX12_next 297 = .ok (.getfield 161, 3) := by decide +kernel
theorem dX12_next_300 : decode cX12_next 300 = .ok (.ldc2_w 180, 3) := by decide +kernel
theorem dX12_next_303 : decode cX12_next 303 = .ok (.lmul, 1) := by decide +kernel
theorem dX12_next_304 : decode cX12_next 304 = .ok (.aload_n 0, 1) := by decide +kernel
theorem dX12_next_305 : decode cX12_next 305 = .ok (.getfield 23, 3) := by decide +kernel
theorem dX12_next_308 : decode cX12_next 308 = .ok (.aload_n 0, 1) := by decide +kernel
theorem dX12_next_309 : decode cX12_next 309 = .ok (.getfield 148, 3) := by decide +kernel
theorem dX12_next_312 : decode cX12_next 312 = .ok (.iaload, 1) := by decide +kernel
theorem dX12_next_313 : decode cX12_next 313 = .ok (.i2l, 1) := by decide +kernel
theorem dX12_next_314 : decode cX12_next 314 = .ok (.ladd, 1) := by decide +kernel
theorem dX12_next_315 : decode cX12_next 315 = .ok (.ldc2_w 182, 3) := by decide +kernel
theorem dX12_next_318 : decode cX12_next 318 = .ok (.lsub, 1) := by decide +kernel
theorem dX12_next_319 : decode cX12_next 319 = .ok (.putfield 161, 3) := by decide +kernel
theorem dX12_next_322 : decode cX12_next 322 = .ok (.aload_n 0, 1) := by decide +kernel
theorem dX12_next_323 : decode cX12_next 323 = .ok (.dup, 1) := by decide +kernel
theorem dX12_next_324 : decode cX12_next 324 = .ok (.getfield 148, 3) := by decide +kernel
theorem dX12_next_327 : decode cX12_next 327 = .ok (.iconst 1, 1) := by decide +kernel
theorem dX12_next_328 : decode cX12_next 328 = .ok (.iadd, 1) := by decide +kernel
theorem dX12_next_329 : decode cX12_next 329 = .ok (.putfield 148, 3) := by decide +kernel
theorem dX12_next_332 : decode cX12_next 332 = .ok (.goto (-89), 3) := by decide +kernel
theorem dX12_next_335 : decode cX12_next 335 = .ok (.return_, 1) := by decide +kernel
theorem dX12_isWord_0 : decode cX12_isWord 0 = .ok (.aload_n 0, 1) := by decide +kernel
theorem dX12_isWord_1 : decode cX12_isWord 1 = .ok (.getfield 171, 3) := by decide +kernel
theorem dX12_isWord_4 : decode cX12_isWord 4 = .ok (.iconst 1, 1) := by decide +kernel
theorem dX12_isWord_5 : decode cX12_isWord 5 = .ok (.if_icmp .ne 16, 3) := by decide +kernel
theorem dX12_isWord_8 : decode cX12_isWord 8 = .ok (.aload_n 0, 1) := by decide +kernel
theorem dX12_isWord_9 : decode cX12_isWord 9 = .ok (.getfield 161, 3) := by decide +kernel
theorem dX12_isWord_12 : decode cX12_isWord 12 = .ok (.lload_n 1, 1) := by decide +kernel
theorem dX12_isWord_13 : decode cX12_isWord 13 = .ok (.lcmp, 1) := by decide +kernel
theorem dX12_isWord_14 : decode cX12_isWord 14 = .ok (.ifCond .ne 7, 3) := by decide +kernel
theorem dX12_isWord_17 : decode cX12_isWord 17 = .ok (.iconst 1, 1) := by decide +kernel
theorem dX12_isWord_18 : decode cX12_isWord 18 = .ok (.goto 4, 3) := by decide +kernel
theorem dX12_isWord_21 : decode cX12_isWord 21 = .ok (.iconst 0, 1) := by decide +kernel
theorem dX12_isWord_22 : decode cX12_isWord 22 = .ok (.ireturn, 1) := by decide +kernel
theorem dX12_isSign_0 : decode cX12_isSign 0 = .ok (.aload_n 0, 1) := by decide +kernel
theorem dX12_isSign_1 : decode cX12_isSign 1 = .ok (.getfield 171, 3) := by decide +kernel
theorem dX12_isSign_4 : decode cX12_isSign 4 = .ok (.iconst 3, 1) := by decide +kernel
theorem dX12_isSign_5 : decode cX12_isSign 5 = .ok (.if_icmp .ne 17, 3) := by decide +kernel
theorem dX12_isSign_8 : decode cX12_isSign 8 = .ok (.aload_n 0, 1) := by decide +kernel
theorem dX12_isSign_9 : decode cX12_isSign 9 = .ok (.getfield 161, 3) := by decide +kernel
theorem dX12_isSign_12 : decode cX12_isSign 12 = .ok (.iload_n 1, 1) := by decide +kernel
theorem dX12_isSign_13 : decode cX12_isSign 13 = .ok (.i2l, 1) := by decide +kernel
theorem dX12_isSign_14 : decode cX12_isSign 14 = .ok (.lcmp, 1) := by decide +kernel
theorem dX12_isSign_15 : decode cX12_isSign 15 = .ok (.ifCond .ne 7, 3) := by decide +kernel
theorem dX12_isSign_18 : decode cX12_isSign 18 = .ok (.iconst 1, 1) := by decide +kernel
theorem dX12_isSign_19 : decode cX12_isSign 19 = .ok (.goto 4, 3) := by decide +kernel
theorem dX12_isSign_22 : decode cX12_isSign 22 = .ok (.iconst 0, 1) := by decide +kernel
theorem dX12_isSign_23 : decode cX12_isSign 23 = .ok (.ireturn, 1) := by decide +kernel
theorem dX12_must_0 : decode cX12_must 0 = .ok (.aload_n 0, 1) := by decide +kernel
theorem dX12_must_1 : decode cX12_must 1 = .ok (.getfield 151, 3) := by decide +kernel
theorem dX12_must_4 : decode cX12_must 4 = .ok (.ifCond .ne 20, 3) := by decide +kernel
theorem dX12_must_7 : decode cX12_must 7 = .ok (.iload_n 1, 1) := by decide +kernel
theorem dX12_must_8 : decode cX12_must 8 = .ok (.ifCond .ne 16, 3) := by decide +kernel
theorem dX12_must_11 : decode cX12_must 11 = .ok (.aload_n 0, 1) := by decide +kernel
theorem dX12_must_12 : decode cX12_must 12 = .ok (.iconst 1, 1) := by decide +kernel
theorem dX12_must_13 : decode cX12_must 13 = .ok (.putfield 151, 3) := by decide +kernel
theorem dX12_must_16 : decode cX12_must 16 = .ok (.aload_n 0, 1) := by decide +kernel
theorem dX12_must_17 : decode cX12_must 17 = .ok (.aload_n 0, 1) := by decide +kernel
theorem dX12_must_18 : decode cX12_must 18 = .ok (.getfield 158, 3) := by decide +kernel
theorem dX12_must_21 : decode cX12_must 21 = .ok (.putfield 26, 3) := by decide +kernel
theorem dX12_must_24 : decode cX12_must 24 = .ok (.aload_n 0, 1) := by decide +kernel
theorem dX12_must_25 : decode cX12_must 25 = .ok (.getfield 151, 3) := by decide +kernel
theorem dX12_must_28 : decode cX12_must 28 = .ok (.ifCond .ne 7, 3) := by decide +kernel
theorem dX12_must_31 : decode cX12_must 31 = .ok (.aload_n 0, 1) := by decide +kernel
theorem dX12_must_32 : decode cX12_must 32 = .ok (.invokevirtual 155, 3) := by decide +kernel
theorem dX12_must_35 : decode cX12_must 35 = .ok (.return_, 1) := by decide +kernel
theorem dX12_fault_0 : decode cX12_fault 0 = .ok (.aload_n 0, 1) := by decide +kernel
theorem dX12_fault_1 : decode cX12_fault 1 = .ok (.iconst 0, 1) := by decide +kernel
theorem dX12_fault_2 : decode cX12_fault 2 = .ok (.putfield 88, 3) := by decide +kernel
theorem dX12_fault_5 : decode cX12_fault 5 = .ok (.aload_n 0, 1) := by decide +kernel
theorem dX12_fault_6 : decode cX12_fault 6 = .ok (.getfield 26, 3) := by decide +kernel
theorem dX12_fault_9 : decode cX12_fault 9 = .ok (.ireturn, 1) := by decide +kernel
theorem dX12_emit_0 : decode cX12_emit 0 = .ok (.aload_n 0, 1) := by decide +kernel
theorem dX12_emit_1 : decode cX12_emit 1 = .ok (.getfield 33, 3) := by decide +kernel
theorem dX12_emit_4 : decode cX12_emit 4 = .ok (.aload_n 0, 1) := by decide +kernel
theorem dX12_emit_5 : decode cX12_emit 5 = .ok (.getfield 188, 3) := by decide +kernel
theorem dX12_emit_8 : decode cX12_emit 8 = .ok (.iload_n 1, 1) := by decide +kernel
theorem dX12_emit_9 : decode cX12_emit 9 = .ok (.iastore, 1) := by decide +kernel
theorem dX12_emit_10 : decode cX12_emit 10 = .ok (.aload_n 0, 1) := by decide +kernel
theorem dX12_emit_11 : decode cX12_emit 11 = .ok (.getfield 36, 3) := by decide +kernel
theorem dX12_emit_14 : decode cX12_emit 14 = .ok (.aload_n 0, 1) := by decide +kernel
theorem dX12_emit_15 : decode cX12_emit 15 = .ok (.getfield 188, 3) := by decide +kernel
theorem dX12_emit_18 : decode cX12_emit 18 = .ok (.iload_n 2, 1) := by decide +kernel
theorem dX12_emit_19 : decode cX12_emit 19 = .ok (.iastore, 1) := by decide +kernel
theorem dX12_emit_20 : decode cX12_emit 20 = .ok (.aload_n 0, 1) := by decide +kernel
theorem dX12_emit_21 : decode cX12_emit 21 = .ok (.dup, 1) := by decide +kernel
theorem dX12_emit_22 : decode cX12_emit 22 = .ok (.getfield 188, 3) := by decide +kernel
theorem dX12_emit_25 : decode cX12_emit 25 = .ok (.iconst 1, 1) := by decide +kernel
theorem dX12_emit_26 : decode cX12_emit 26 = .ok (.iadd, 1) := by decide +kernel
theorem dX12_emit_27 : decode cX12_emit 27 = .ok (.putfield 188, 3) := by decide +kernel
theorem dX12_emit_30 : decode cX12_emit 30 = .ok (.return_, 1) := by decide +kernel
theorem dX12_push_0 : decode cX12_push 0 = .ok (.aload_n 0, 1) := by decide +kernel
theorem dX12_push_1 : decode cX12_push 1 = .ok (.getfield 39, 3) := by decide +kernel
theorem dX12_push_4 : decode cX12_push 4 = .ok (.aload_n 0, 1) := by decide +kernel
theorem dX12_push_5 : decode cX12_push 5 = .ok (.getfield 191, 3) := by decide +kernel
theorem dX12_push_8 : decode cX12_push 8 = .ok (.iload_n 1, 1) := by decide +kernel
theorem dX12_push_9 : decode cX12_push 9 = .ok (.iastore, 1) := by decide +kernel
theorem dX12_push_10 : decode cX12_push 10 = .ok (.aload_n 0, 1) := by decide +kernel
theorem dX12_push_11 : decode cX12_push 11 = .ok (.getfield 42, 3) := by decide +kernel
theorem dX12_push_14 : decode cX12_push 14 = .ok (.aload_n 0, 1) := by decide +kernel
theorem dX12_push_15 : decode cX12_push 15 = .ok (.getfield 191, 3) := by decide +kernel
theorem dX12_push_18 : decode cX12_push 18 = .ok (.iload_n 2, 1) := by decide +kernel
theorem dX12_push_19 : decode cX12_push 19 = .ok (.iastore, 1) := by decide +kernel
theorem dX12_push_20 : decode cX12_push 20 = .ok (.aload_n 0, 1) := by decide +kernel
theorem dX12_push_21 : decode cX12_push 21 = .ok (.dup, 1) := by decide +kernel
theorem dX12_push_22 : decode cX12_push 22 = .ok (.getfield 191, 3) := by decide +kernel
theorem dX12_push_25 : decode cX12_push 25 = .ok (.iconst 1, 1) := by decide +kernel
theorem dX12_push_26 : decode cX12_push 26 = .ok (.iadd, 1) := by decide +kernel
theorem dX12_push_27 : decode cX12_push 27 = .ok (.putfield 191, 3) := by decide +kernel
theorem dX12_push_30 : decode cX12_push 30 = .ok (.return_, 1) := by decide +kernel
theorem dX12_binds_0 : decode cX12_binds 0 = .ok (.iload_n 0, 1) := by decide +kernel
theorem dX12_binds_1 : decode cX12_binds 1 = .ok (.bipush 30, 2) := by decide +kernel
theorem dX12_binds_3 : decode cX12_binds 3 = .ok (.if_icmp .lt 7, 3) := by decide +kernel
theorem dX12_binds_6 : decode cX12_binds 6 = .ok (.iconst 0, 1) := by decide +kernel
theorem dX12_binds_7 : decode cX12_binds 7 = .ok (.goto 55, 3) := by decide +kernel
theorem dX12_binds_10 : decode cX12_binds 10 = .ok (.iload_n 0, 1) := by decide +kernel
theorem dX12_binds_11 : decode cX12_binds 11 = .ok (.bipush 29, 2) := by decide +kernel
theorem dX12_binds_13 : decode cX12_binds 13 = .ok (.if_icmp .ne 7, 3) := by decide +kernel
theorem dX12_binds_16 : decode cX12_binds 16 = .ok (.iconst 1, 1) := by decide +kernel
theorem dX12_binds_17 : decode cX12_binds 17 = .ok (.goto 45, 3) := by decide +kernel
theorem dX12_binds_20 : decode cX12_binds 20 = .ok (.iload_n 0, 1) := by decide +kernel
theorem dX12_binds_21 : decode cX12_binds 21 = .ok (.bipush 28, 2) := by decide +kernel
theorem dX12_binds_23 : decode cX12_binds 23 = .ok (.if_icmp .ne 7, 3) := by decide +kernel
theorem dX12_binds_26 : decode cX12_binds 26 = .ok (.iconst 2, 1) := by decide +kernel
theorem dX12_binds_27 : decode cX12_binds 27 = .ok (.goto 35, 3) := by decide +kernel
theorem dX12_binds_30 : decode cX12_binds 30 = .ok (.iload_n 0, 1) := by decide +kernel
theorem dX12_binds_31 : decode cX12_binds 31 = .ok (.bipush 27, 2) := by decide +kernel
theorem dX12_binds_33 : decode cX12_binds 33 = .ok (.if_icmp .ne 7, 3) := by decide +kernel
theorem dX12_binds_36 : decode cX12_binds 36 = .ok (.iconst 3, 1) := by decide +kernel
theorem dX12_binds_37 : decode cX12_binds 37 = .ok (.goto 25, 3) := by decide +kernel
theorem dX12_binds_40 : decode cX12_binds 40 = .ok (.iload_n 0, 1) := by decide +kernel
theorem dX12_binds_41 : decode cX12_binds 41 = .ok (.bipush 24, 2) := by decide +kernel
theorem dX12_binds_43 : decode cX12_binds 43 = .ok (.if_icmp .lt 7, 3) := by decide +kernel
theorem dX12_binds_46 : decode cX12_binds 46 = .ok (.iconst 4, 1) := by decide +kernel
theorem dX12_binds_47 : decode cX12_binds 47 = .ok (.goto 15, 3) := by decide +kernel
theorem dX12_binds_50 : decode cX12_binds 50 = .ok (.iload_n 0, 1) := by decide +kernel
theorem dX12_binds_51 : decode cX12_binds 51 = .ok (.bipush 21, 2) := by decide +kernel
theorem dX12_binds_53 : decode cX12_binds 53 = .ok (.if_icmp .lt 8, 3) := by decide +kernel
theorem dX12_binds_56 : decode cX12_binds 56 = .ok (.bipush 6, 2) := by decide +kernel
theorem dX12_binds_58 : decode cX12_binds 58 = .ok (.goto 4, 3) := by decide +kernel
theorem dX12_binds_61 : decode cX12_binds 61 = .ok (.iconst 5, 1) := by decide +kernel
theorem dX12_binds_62 : decode cX12_binds 62 = .ok (.ireturn, 1) := by decide +kernel
theorem dX12_settle_0 : decode cX12_settle 0 = .ok (.aload_n 0, 1) := by decide +kernel
theorem dX12_settle_1 : decode cX12_settle 1 = .ok (.getfield 191, 3) := by decide +kernel
theorem dX12_settle_4 : decode cX12_settle 4 = .ok (.ifCond .le 97, 3) := by decide +kernel
theorem dX12_settle_7 : decode cX12_settle 7 = .ok (.aload_n 0, 1) := by decide +kernel
theorem dX12_settle_8 : decode cX12_settle 8 = .ok (.getfield 39, 3) := by decide +kernel
theorem dX12_settle_11 : decode cX12_settle 11 = .ok (.aload_n 0, 1) := by decide +kernel
theorem dX12_settle_12 : decode cX12_settle 12 = .ok (.getfield 191, 3) := by decide +kernel
theorem dX12_settle_15 : decode cX12_settle 15 = .ok (.iconst 1, 1) := by decide +kernel
theorem dX12_settle_16 : decode cX12_settle 16 = .ok (.isub, 1) := by decide +kernel
theorem dX12_settle_17 : decode cX12_settle 17 = .ok (.iaload, 1) := by decide +kernel
theorem dX12_settle_18 : decode cX12_settle 18 = .ok (.invokestatic 194, 3) := by decide +kernel
theorem dX12_settle_21 : decode cX12_settle 21 = .ok (.iload_n 1, 1) := by decide +kernel
theorem dX12_settle_22 : decode cX12_settle 22 = .ok (.if_icmp .lt 79, 3) := by decide +kernel
theorem dX12_settle_25 : decode cX12_settle 25 = .ok (.aload_n 0, 1) := by decide +kernel
theorem dX12_settle_26 : decode cX12_settle 26 = .ok (.dup, 1) := by decide +kernel
theorem dX12_settle_27 : decode cX12_settle 27 = .ok (.getfield 191, 3) := by decide +kernel
theorem dX12_settle_30 : decode cX12_settle 30 = .ok (.iconst 1, 1) := by decide +kernel
theorem dX12_settle_31 : decode cX12_settle 31 = .ok (.isub, 1) := by decide +kernel
theorem dX12_settle_32 : decode cX12_settle 32 = .ok (.putfield 191, 3) := by decide +kernel
theorem dX12_settle_35 : decode cX12_settle 35 = .ok (.aload_n 0, 1) := by decide +kernel
theorem dX12_settle_36 : decode cX12_settle 36 = .ok (.getfield 39, 3) := by decide +kernel
theorem dX12_settle_39 : decode cX12_settle 39 = .ok (.aload_n 0, 1) := by decide +kernel
theorem dX12_settle_40 : decode cX12_settle 40 = .ok (.getfield 191, 3) := by decide +kernel
theorem dX12_settle_43 : decode cX12_settle 43 = .ok (.iaload, 1) := by decide +kernel
theorem dX12_settle_44 : decode cX12_settle 44 = .ok (.bipush 28, 2) := by decide +kernel
theorem dX12_settle_46 : decode cX12_settle 46 = .ok (.if_icmp .eq 17, 3) := by decide +kernel
theorem dX12_settle_49 : decode cX12_settle 49 = .ok (.aload_n 0, 1) := by decide +kernel
theorem dX12_settle_50 : decode cX12_settle 50 = .ok (.getfield 39, 3) := by decide +kernel
theorem dX12_settle_53 : decode cX12_settle 53 = .ok (.aload_n 0, 1) := by decide +kernel
theorem dX12_settle_54 : decode cX12_settle 54 = .ok (.getfield 191, 3) := by decide +kernel
theorem dX12_settle_57 : decode cX12_settle 57 = .ok (.iaload, 1) := by decide +kernel
theorem dX12_settle_58 : decode cX12_settle 58 = .ok (.bipush 29, 2) := by decide +kernel
theorem dX12_settle_60 : decode cX12_settle 60 = .ok (.if_icmp .ne 24, 3) := by decide +kernel
theorem dX12_settle_63 : decode cX12_settle 63 = .ok (.aload_n 0, 1) := by decide +kernel
theorem dX12_settle_64 : decode cX12_settle 64 = .ok (.getfield 36, 3) := by decide +kernel
theorem dX12_settle_67 : decode cX12_settle 67 = .ok (.aload_n 0, 1) := by decide +kernel
theorem dX12_settle_68 : decode cX12_settle 68 = .ok (.getfield 42, 3) := by decide +kernel
theorem dX12_settle_71 : decode cX12_settle 71 = .ok (.aload_n 0, 1) := by decide +kernel
theorem dX12_settle_72 : decode cX12_settle 72 = .ok (.getfield 191, 3) := by decide +kernel
theorem dX12_settle_75 : decode cX12_settle 75 = .ok (.iaload, 1) := by decide +kernel
theorem dX12_settle_76 : decode cX12_settle 76 = .ok (.aload_n 0, 1) := by decide +kernel
theorem dX12_settle_77 : decode cX12_settle 77 = .ok (.getfield 188, 3) := by decide +kernel
theorem dX12_settle_80 : decode cX12_settle 80 = .ok (.iastore, 1) := by decide +kernel
theorem dX12_settle_81 : decode cX12_settle 81 = .ok (.goto (-81), 3) := by decide +kernel
theorem dX12_settle_84 : decode cX12_settle 84 = .ok (.aload_n 0, 1) := by decide +kernel
theorem dX12_settle_85 : decode cX12_settle 85 = .ok (.aload_n 0, 1) := by decide +kernel
theorem dX12_settle_86 : decode cX12_settle 86 = .ok (.getfield 39, 3) := by decide +kernel
theorem dX12_settle_89 : decode cX12_settle 89 = .ok (.aload_n 0, 1) := by decide +kernel
theorem dX12_settle_90 : decode cX12_settle 90 = .ok (.getfield 191, 3) := by decide +kernel
theorem dX12_settle_93 : decode cX12_settle 93 = .ok (.iaload, 1) := by decide +kernel
theorem dX12_settle_94 : decode cX12_settle 94 = .ok (.iconst 0, 1) := by decide +kernel
theorem dX12_settle_95 : decode cX12_settle 95 = .ok (.invokevirtual 197, 3) := by decide +kernel
theorem dX12_settle_98 : decode cX12_settle 98 = .ok (.goto (-98), 3) := by decide +kernel
theorem dX12_settle_101 : decode cX12_settle 101 = .ok (.return_, 1) := by decide +kernel
theorem dX12_inner_0 : decode cX12_inner 0 = .ok (.iconst (-1), 1) := by decide +kernel
theorem dX12_inner_1 : decode cX12_inner 1 = .ok (.istore_n 1, 1) := by decide +kernel
theorem dX12_inner_2 : decode cX12_inner 2 = .ok (.iconst 0, 1) := by decide +kernel
theorem dX12_inner_3 : decode cX12_inner 3 = .ok (.istore_n 2, 1) := by decide +kernel
theorem dX12_inner_4 : decode cX12_inner 4 = .ok (.iload_n 2, 1) := by decide +kernel
theorem dX12_inner_5 : decode cX12_inner 5 = .ok (.aload_n 0, 1) := by decide +kernel
theorem dX12_inner_6 : decode cX12_inner 6 = .ok (.getfield 191, 3) := by decide +kernel
theorem dX12_inner_9 : decode cX12_inner 9 = .ok (.if_icmp .ge 31, 3) := by decide +kernel
theorem dX12_inner_12 : decode cX12_inner 12 = .ok (.aload_n 0, 1) := by decide +kernel
theorem dX12_inner_13 : decode cX12_inner 13 = .ok (.getfield 39, 3) := by decide +kernel
theorem dX12_inner_16 : decode cX12_inner 16 = .ok (.iload_n 2, 1) := by decide +kernel
theorem dX12_inner_17 : decode cX12_inner 17 = .ok (.iaload, 1) := by decide +kernel
theorem dX12_inner_18 : decode cX12_inner 18 = .ok (.bipush 30, 2) := by decide +kernel
theorem dX12_inner_20 : decode cX12_inner 20 = .ok (.if_icmp .lt 12, 3) := by decide +kernel
theorem dX12_inner_23 : decode cX12_inner 23 = .ok (.aload_n 0, 1) := by decide +kernel
theorem dX12_inner_24 : decode cX12_inner 24 = .ok (.getfield 39, 3) := by decide +kernel
theorem dX12_inner_27 : decode cX12_inner 27 = .ok (.iload_n 2, 1) := by decide +kernel
theorem dX12_inner_28 : decode cX12_inner 28 = .ok (.iaload, 1) := by decide +kernel
theorem dX12_inner_29 : decode cX12_inner 29 = .ok (.goto 4, 3) := by decide +kernel
theorem dX12_inner_32 : decode cX12_inner 32 = .ok (.iload_n 1, 1) := by decide +kernel
theorem dX12_inner_33 : decode cX12_inner 33 = .ok (.istore_n 1, 1) := by decide +kernel
theorem dX12_inner_34 : decode cX12_inner 34 = .ok (.iinc 2 1, 3) := by decide +kernel
theorem dX12_inner_37 : decode cX12_inner 37 = .ok (.goto (-33), 3) := by decide +kernel
theorem dX12_inner_40 : decode cX12_inner 40 = .ok (.iload_n 1, 1) := by decide +kernel
theorem dX12_inner_41 : decode cX12_inner 41 = .ok (.ireturn, 1) := by decide +kernel
theorem dX12_isCompared_0 : decode cX12_isCompared 0 = .ok (.aload_n 0, 1) := by decide +kernel
theorem dX12_isCompared_1 : decode cX12_isCompared 1 = .ok (.getfield 191, 3) := by decide +kernel
theorem dX12_isCompared_4 : decode cX12_isCompared 4 = .ok (.iconst 1, 1) := by decide +kernel
theorem dX12_isCompared_5 : decode cX12_isCompared 5 = .ok (.isub, 1) := by decide +kernel
theorem dX12_isCompared_6 : decode cX12_isCompared 6 = .ok (.istore_n 1, 1) := by decide +kernel
theorem dX12_isCompared_7 : decode cX12_isCompared 7 = .ok (.iload_n 1, 1) := by decide +kernel
theorem dX12_isCompared_8 : decode cX12_isCompared 8 = .ok (.ifCond .lt 28, 3) := by decide +kernel
theorem dX12_isCompared_11 : decode cX12_isCompared 11 = .ok (.aload_n 0, 1) := by decide +kernel
theorem dX12_isCompared_12 : decode cX12_isCompared 12 = .ok (.getfield 39, 3) := by decide +kernel
theorem dX12_isCompared_15 : decode cX12_isCompared 15 = .ok (.iload_n 1, 1) := by decide +kernel
theorem dX12_isCompared_16 : decode cX12_isCompared 16 = .ok (.iaload, 1) := by decide +kernel
theorem dX12_isCompared_17 : decode cX12_isCompared 17 = .ok (.i2l, 1) := by decide +kernel
theorem dX12_isCompared_18 : decode cX12_isCompared 18 = .ok (.ldc2_w 201, 3) := by decide +kernel
theorem dX12_isCompared_21 : decode cX12_isCompared 21 = .ok (.ldc2_w 203, 3) := by decide +kernel
theorem dX12_isCompared_24 : decode cX12_isCompared 24 = .ok (.invokestatic 98, 3) := by decide +kernel
theorem dX12_isCompared_27 : decode cX12_isCompared 27 = .ok (.ifCond .eq 9, 3) := by decide +kernel
theorem dX12_isCompared_30 : decode cX12_isCompared 30 = .ok (.iinc 1 (-1), 3) := by decide +kernel
theorem dX12_isCompared_33 : decode cX12_isCompared 33 = .ok (.goto (-26), 3) := by decide +kernel
theorem dX12_isCompared_36 : decode cX12_isCompared 36 = .ok (.iload_n 1, 1) := by decide +kernel
theorem dX12_isCompared_37 : decode cX12_isCompared 37 = .ok (.ifCond .lt 26, 3) := by decide +kernel
theorem dX12_isCompared_40 : decode cX12_isCompared 40 = .ok (.aload_n 0, 1) := by decide +kernel
theorem dX12_isCompared_41 : decode cX12_isCompared 41 = .ok (.getfield 39, 3) := by decide +kernel
theorem dX12_isCompared_44 : decode cX12_isCompared 44 = .ok (.iload_n 1, 1) := by decide +kernel
theorem dX12_isCompared_45 : decode cX12_isCompared 45 = .ok (.iaload, 1) := by decide +kernel
theorem dX12_isCompared_46 : decode cX12_isCompared 46 = .ok (.i2l, 1) := by decide +kernel
theorem dX12_isCompared_47 : decode cX12_isCompared 47 = .ok (.ldc2_w 205, 3) := by decide +kernel
theorem dX12_isCompared_50 : decode cX12_isCompared 50 = .ok (.ldc2_w 207, 3) := by decide +kernel
theorem dX12_isCompared_53 : decode cX12_isCompared 53 = .ok (.invokestatic 98, 3) := by decide +kernel
theorem dX12_isCompared_56 : decode cX12_isCompared 56 = .ok (.ifCond .eq 7, 3) := by decide +kernel
theorem dX12_isCompared_59 : decode cX12_isCompared 59 = .ok (.iconst 1, 1) := by decide +kernel
theorem dX12_isCompared_60 : decode cX12_isCompared 60 = .ok (.goto 4, 3) := by decide +kernel
theorem dX12_isCompared_63 : decode cX12_isCompared 63 = .ok (.iconst 0, 1) := by decide +kernel
theorem dX12_isCompared_64 : decode cX12_isCompared 64 = .ok (.ireturn, 1) := by decide +kernel
theorem dX12_partAt_0 : decode cX12_partAt 0 = .ok (.iconst (-1), 1) := by decide +kernel
theorem dX12_partAt_1 : decode cX12_partAt 1 = .ok (.istore_n 1, 1) := by decide +kernel
theorem dX12_partAt_2 : decode cX12_partAt 2 = .ok (.iconst 0, 1) := by decide +kernel
theorem dX12_partAt_3 : decode cX12_partAt 3 = .ok (.istore_n 2, 1) := by decide +kernel
theorem dX12_partAt_4 : decode cX12_partAt 4 = .ok (.iload_n 2, 1) := by decide +kernel
theorem dX12_partAt_5 : decode cX12_partAt 5 = .ok (.iconst 5, 1) := by decide +kernel
theorem dX12_partAt_6 : decode cX12_partAt 6 = .ok (.if_icmp .ge 30, 3) := by decide +kernel
theorem dX12_partAt_9 : decode cX12_partAt 9 = .ok (.aload_n 0, 1) := by decide +kernel
theorem dX12_partAt_10 : decode cX12_partAt 10 = .ok (.aload_n 0, 1) := by decide +kernel
theorem dX12_partAt_11 : decode cX12_partAt 11 = .ok (.getfield 55, 3) := by decide +kernel
theorem dX12_partAt_14 : decode cX12_partAt 14 = .ok (.iload_n 2, 1) := by decide +kernel
theorem dX12_partAt_15 : decode cX12_partAt 15 = .ok (.laload, 1) := by decide +kernel
theorem dX12_partAt_16 : decode cX12_partAt 16 = .ok (.invokevirtual 209, 3) := by decide +kernel
theorem dX12_partAt_19 : decode cX12_partAt 19 = .ok (.ifCond .eq 9, 3) := by decide +kernel
theorem dX12_partAt_22 : decode cX12_partAt 22 = .ok (.iload_n 2, 1) := by decide +kernel
theorem dX12_partAt_23 : decode cX12_partAt 23 = .ok (.iconst 1, 1) := by decide +kernel
theorem dX12_partAt_24 : decode cX12_partAt 24 = .ok (.iadd, 1) := by decide +kernel
theorem dX12_partAt_25 : decode cX12_partAt 25 = .ok (.goto 4, 3) := by decide +kernel
theorem dX12_partAt_28 : decode cX12_partAt 28 = .ok (.iload_n 1, 1) := by decide +kernel
theorem dX12_partAt_29 : decode cX12_partAt 29 = .ok (.istore_n 1, 1) := by decide +kernel
theorem dX12_partAt_30 : decode cX12_partAt 30 = .ok (.iinc 2 1, 3) := by decide +kernel
theorem dX12_partAt_33 : decode cX12_partAt 33 = .ok (.goto (-29), 3) := by decide +kernel
theorem dX12_partAt_36 : decode cX12_partAt 36 = .ok (.iload_n 1, 1) := by decide +kernel
theorem dX12_partAt_37 : decode cX12_partAt 37 = .ok (.ireturn, 1) := by decide +kernel
theorem dX12_openBracket_0 : decode cX12_openBracket 0 = .ok (.aload_n 0, 1) := by decide +kernel
theorem dX12_openBracket_1 : decode cX12_openBracket 1 = .ok (.aload_n 0, 1) := by decide +kernel
theorem dX12_openBracket_2 : decode cX12_openBracket 2 = .ok (.getfield 213, 3) := by decide +kernel
theorem dX12_openBracket_5 : decode cX12_openBracket 5 = .ok (.bipush 8, 2) := by decide +kernel
theorem dX12_openBracket_7 : decode cX12_openBracket 7 = .ok (.if_icmp .ge 7, 3) := by decide +kernel
theorem dX12_openBracket_10 : decode cX12_openBracket 10 = .ok (.iconst 1, 1) := by decide +kernel
theorem dX12_openBracket_11 : decode cX12_openBracket 11 = .ok (.goto 4, 3) := by decide +kernel
theorem dX12_openBracket_14 : decode cX12_openBracket 14 = .ok (.iconst 0, 1) := by decide +kernel
theorem dX12_openBracket_15 : decode cX12_openBracket 15 = .ok (.invokevirtual 184, 3) := by decide +kernel
theorem dX12_openBracket_18 : decode cX12_openBracket 18 = .ok (.aload_n 0, 1) := by decide +kernel
theorem dX12_openBracket_19 : decode cX12_openBracket 19 = .ok (.getfield 151, 3) := by decide +kernel
theorem dX12_openBracket_22 : decode cX12_openBracket 22 = .ok (.ifCond .ne 19, 3) := by decide +kernel
theorem dX12_openBracket_25 : decode cX12_openBracket 25 = .ok (.aload_n 0, 1) := by decide +kernel
theorem dX12_openBracket_26 : decode cX12_openBracket 26 = .ok (.dup, 1) := by decide +kernel
theorem dX12_openBracket_27 : decode cX12_openBracket 27 = .ok (.getfield 213, 3) := by decide +kernel
theorem dX12_openBracket_30 : decode cX12_openBracket 30 = .ok (.iconst 1, 1) := by decide +kernel
theorem dX12_openBracket_31 : decode cX12_openBracket 31 = .ok (.iadd, 1) := by decide +kernel
theorem dX12_openBracket_32 : decode cX12_openBracket 32 = .ok (.putfield 213, 3) := by decide +kernel
theorem dX12_openBracket_35 : decode cX12_openBracket 35 = .ok (.aload_n 0, 1) := by decide +kernel
theorem dX12_openBracket_36 : decode cX12_openBracket 36 = .ok (.iload_n 1, 1) := by decide +kernel
theorem dX12_openBracket_37 : decode cX12_openBracket 37 = .ok (.iconst 0, 1) := by decide +kernel
theorem dX12_openBracket_38 : decode cX12_openBracket 38 = .ok (.invokevirtual 216, 3) := by decide +kernel
theorem dX12_openBracket_41 : decode cX12_openBracket 41 = .ok (.return_, 1) := by decide +kernel
theorem dX12_leaf_0 : decode cX12_leaf 0 = .ok (.aload_n 0, 1) := by decide +kernel
theorem dX12_leaf_1 : decode cX12_leaf 1 = .ok (.iload_n 1, 1) := by decide +kernel
theorem dX12_leaf_2 : decode cX12_leaf 2 = .ok (.ifCond .eq 16, 3) := by decide +kernel
theorem dX12_leaf_5 : decode cX12_leaf 5 = .ok (.aload_n 0, 1) := by decide +kernel
theorem dX12_leaf_6 : decode cX12_leaf 6 = .ok (.getfield 219, 3) := by decide +kernel
theorem dX12_leaf_9 : decode cX12_leaf 9 = .ok (.bipush 50, 2) := by decide +kernel
theorem dX12_leaf_11 : decode cX12_leaf 11 = .ok (.if_icmp .ge 7, 3) := by decide +kernel
theorem dX12_leaf_14 : decode cX12_leaf 14 = .ok (.iconst 1, 1) := by decide +kernel
theorem dX12_leaf_15 : decode cX12_leaf 15 = .ok (.goto 4, 3) := by decide +kernel
theorem dX12_leaf_18 : decode cX12_leaf 18 = .ok (.iconst 0, 1) := by decide +kernel
theorem dX12_leaf_19 : decode cX12_leaf 19 = .ok (.invokevirtual 184, 3) := by decide +kernel
theorem dX12_leaf_22 : decode cX12_leaf 22 = .ok (.aload_n 0, 1) := by decide +kernel
theorem dX12_leaf_23 : decode cX12_leaf 23 = .ok (.getfield 151, 3) := by decide +kernel
theorem dX12_leaf_26 : decode cX12_leaf 26 = .ok (.ifCond .ne 19, 3) := by decide +kernel
theorem dX12_leaf_29 : decode cX12_leaf 29 = .ok (.aload_n 0, 1) := by decide +kernel
theorem dX12_leaf_30 : decode cX12_leaf 30 = .ok (.iload_n 2, 1) := by decide +kernel
theorem dX12_leaf_31 : decode cX12_leaf 31 = .ok (.iload_n 3, 1) := by decide +kernel
theorem dX12_leaf_32 : decode cX12_leaf 32 = .ok (.invokevirtual 197, 3) := by decide +kernel
theorem dX12_leaf_35 : decode cX12_leaf 35 = .ok (.aload_n 0, 1) := by decide +kernel
theorem dX12_leaf_36 : decode cX12_leaf 36 = .ok (.dup, 1) := by decide +kernel
theorem dX12_leaf_37 : decode cX12_leaf 37 = .ok (.getfield 219, 3) := by decide +kernel
theorem dX12_leaf_40 : decode cX12_leaf 40 = .ok (.iconst 1, 1) := by decide +kernel
theorem dX12_leaf_41 : decode cX12_leaf 41 = .ok (.iadd, 1) := by decide +kernel
theorem dX12_leaf_42 : decode cX12_leaf 42 = .ok (.putfield 219, 3) := by decide +kernel
theorem dX12_leaf_45 : decode cX12_leaf 45 = .ok (.return_, 1) := by decide +kernel
theorem dX12_readPart_0 : decode cX12_readPart 0 = .ok (.aload_n 0, 1) := by decide +kernel
theorem dX12_readPart_1 : decode cX12_readPart 1 = .ok (.bipush 91, 2) := by decide +kernel
theorem dX12_readPart_3 : decode cX12_readPart 3 = .ok (.invokevirtual 222, 3) := by decide +kernel
theorem dX12_readPart_6 : decode cX12_readPart 6 = .ok (.ifCond .eq 11, 3) := by decide +kernel
theorem dX12_readPart_9 : decode cX12_readPart 9 = .ok (.aload_n 0, 1) := by decide +kernel
theorem dX12_readPart_10 : decode cX12_readPart 10 = .ok (.bipush 31, 2) := by decide +kernel
theorem dX12_readPart_12 : decode cX12_readPart 12 = .ok (.invokevirtual 225, 3) := by decide +kernel
theorem dX12_readPart_15 : decode cX12_readPart 15 = .ok (.iconst 1, 1) := by decide +kernel
theorem dX12_readPart_16 : decode cX12_readPart 16 = .ok (.ireturn, 1) := by decide +kernel
theorem dX12_readPart_17 : decode cX12_readPart 17 = .ok (.aload_n 0, 1) := by decide +kernel
theorem dX12_readPart_18 : decode cX12_readPart 18 = .ok (.invokevirtual 228, 3) := by decide +kernel
theorem dX12_readPart_21 : decode cX12_readPart 21 = .ok (.istore_n 1, 1) := by decide +kernel
theorem dX12_readPart_22 : decode cX12_readPart 22 = .ok (.aload_n 0, 1) := by decide +kernel
theorem dX12_readPart_23 : decode cX12_readPart 23 = .ok (.getfield 171, 3) := by decide +kernel
theorem dX12_readPart_26 : decode cX12_readPart 26 = .ok (.iconst 2, 1) := by decide +kernel
theorem dX12_readPart_27 : decode cX12_readPart 27 = .ok (.if_icmp .ne 18, 3) := by decide +kernel
theorem dX12_readPart_30 : decode cX12_readPart 30 = .ok (.aload_n 0, 1) := by decide +kernel
theorem dX12_readPart_31 : decode cX12_readPart 31 = .ok (.getfield 161, 3) := by decide +kernel
theorem dX12_readPart_34 : decode cX12_readPart 34 = .ok (.ldc2_w 232, 3) := by decide +kernel
theorem dX12_readPart_37 : decode cX12_readPart 37 = .ok (.lcmp, 1) := by decide +kernel
theorem dX12_readPart_38 : decode cX12_readPart 38 = .ok (.ifCond .gt 7, 3) := by decide +kernel
theorem dX12_readPart_41 : decode cX12_readPart 41 = .ok (.iconst 1, 1) := by decide +kernel
theorem dX12_readPart_42 : decode cX12_readPart 42 = .ok (.goto 4, 3) := by decide +kernel
theorem dX12_readPart_45 : decode cX12_readPart 45 = .ok (.iconst 0, 1) := by decide +kernel
theorem dX12_readPart_46 : decode cX12_readPart 46 = .ok (.istore_n 2, 1) := by decide +kernel
theorem dX12_readPart_47 : decode cX12_readPart 47 = .ok (.aload_n 0, 1) := by decide +kernel
theorem dX12_readPart_48 : decode cX12_readPart 48 = .ok (.iload_n 1, 1) := by decide +kernel
theorem dX12_readPart_49 : decode cX12_readPart 49 = .ok (.iconst (-1), 1) := by decide +kernel
theorem dX12_readPart_50 : decode cX12_readPart 50 = .ok (.if_icmp .ne 7, 3) := by decide +kernel
theorem dX12_readPart_53 : decode cX12_readPart 53 = .ok (.iload_n 2, 1) := by decide +kernel
theorem dX12_readPart_54 : decode cX12_readPart 54 = .ok (.ifCond .eq 7, 3) := by decide +kernel
theorem dX12_readPart_57 : decode cX12_readPart 57 = .ok (.iconst 1, 1) := by decide +kernel
theorem dX12_readPart_58 : decode cX12_readPart 58 = .ok (.goto 4, 3) := by decide +kernel
theorem dX12_readPart_61 : decode cX12_readPart 61 = .ok (.iconst 0, 1) := by decide +kernel
theorem dX12_readPart_62 : decode cX12_readPart 62 = .ok (.iload_n 1, 1) := by decide +kernel
theorem dX12_readPart_63 : decode cX12_readPart 63 = .ok (.iconst (-1), 1) := by decide +kernel
theorem dX12_readPart_64 : decode cX12_readPart 64 = .ok (.if_icmp .ne 7, 3) := by decide +kernel
theorem dX12_readPart_67 : decode cX12_readPart 67 = .ok (.iconst 0, 1) := by decide +kernel
theorem dX12_readPart_68 : decode cX12_readPart 68 = .ok (.goto 4, 3) := by decide +kernel
theorem dX12_readPart_71 : decode cX12_readPart 71 = .ok (.iload_n 1, 1) := by decide +kernel
theorem dX12_readPart_72 : decode cX12_readPart 72 = .ok (.iload_n 2, 1) := by decide +kernel
theorem dX12_readPart_73 : decode cX12_readPart 73 = .ok (.ifCond .eq 11, 3) := by decide +kernel
theorem dX12_readPart_76 : decode cX12_readPart 76 = .ok (.aload_n 0, 1) := by decide +kernel
theorem dX12_readPart_77 : decode cX12_readPart 77 = .ok (.getfield 161, 3) := by decide +kernel
theorem dX12_readPart_80 : decode cX12_readPart 80 = .ok (.l2i, 1) := by decide +kernel
theorem dX12_readPart_81 : decode cX12_readPart 81 = .ok (.goto 4, 3) := by decide +kernel
theorem dX12_readPart_84 : decode cX12_readPart 84 = .ok (.iconst 0, 1) := by decide +kernel
theorem dX12_readPart_85 : decode cX12_readPart 85 = .ok (.invokevirtual 234, 3) := by decide +kernel
theorem dX12_readPart_88 : decode cX12_readPart 88 = .ok (.iconst 3, 1) := by decide +kernel
theorem dX12_readPart_89 : decode cX12_readPart 89 = .ok (.ireturn, 1) := by decide +kernel
theorem dX12_readPlain_0 : decode cX12_readPlain 0 = .ok (.aload_n 0, 1) := by decide +kernel
theorem dX12_readPlain_1 : decode cX12_readPlain 1 = .ok (.ldc2_w 238, 3) := by decide +kernel
theorem dX12_readPlain_4 : decode cX12_readPlain 4 = .ok (.invokevirtual 209, 3) := by decide +kernel
theorem dX12_readPlain_7 : decode cX12_readPlain 7 = .ok (.ifCond .eq 16, 3) := by decide +kernel
theorem dX12_readPlain_10 : decode cX12_readPlain 10 = .ok (.aload_n 0, 1) := by decide +kernel
theorem dX12_readPlain_11 : decode cX12_readPlain 11 = .ok (.bipush 27, 2) := by decide +kernel
theorem dX12_readPlain_13 : decode cX12_readPlain 13 = .ok (.iconst 0, 1) := by decide +kernel
theorem dX12_readPlain_14 : decode cX12_readPlain 14 = .ok (.invokevirtual 216, 3) := by decide +kernel
theorem dX12_readPlain_17 : decode cX12_readPlain 17 = .ok (.aload_n 0, 1) := by decide +kernel
theorem dX12_readPlain_18 : decode cX12_readPlain 18 = .ok (.invokevirtual 155, 3) := by decide +kernel
theorem dX12_readPlain_21 : decode cX12_readPlain 21 = .ok (.iconst 0, 1) := by decide +kernel
theorem dX12_readPlain_22 : decode cX12_readPlain 22 = .ok (.ireturn, 1) := by decide +kernel
theorem dX12_readPlain_23 : decode cX12_readPlain 23 = .ok (.aload_n 0, 1) := by decide +kernel
theorem dX12_readPlain_24 : decode cX12_readPlain 24 = .ok (.bipush 40, 2) := by decide +kernel
theorem dX12_readPlain_26 : decode cX12_readPlain 26 = .ok (.invokevirtual 222, 3) := by decide +kernel
theorem dX12_readPlain_29 : decode cX12_readPlain 29 = .ok (.ifCond .eq 11, 3) := by decide +kernel
theorem dX12_readPlain_32 : decode cX12_readPlain 32 = .ok (.aload_n 0, 1) := by decide +kernel
theorem dX12_readPlain_33 : decode cX12_readPlain 33 = .ok (.bipush 30, 2) := by decide +kernel
theorem dX12_readPlain_35 : decode cX12_readPlain 35 = .ok (.invokevirtual 225, 3) := by decide +kernel
theorem dX12_readPlain_38 : decode cX12_readPlain 38 = .ok (.iconst 0, 1) := by decide +kernel
theorem dX12_readPlain_39 : decode cX12_readPlain 39 = .ok (.ireturn, 1) := by decide +kernel
theorem dX12_readPlain_40 : decode cX12_readPlain 40 = .ok (.aload_n 0, 1) := by decide +kernel
theorem dX12_readPlain_41 : decode cX12_readPlain 41 = .ok (.invokevirtual 240, 3) := by decide +kernel
theorem dX12_readPlain_44 : decode cX12_readPlain 44 = .ok (.ireturn, 1) := by decide +kernel
theorem dX12_behindSum_0 : decode cX12_behindSum 0 = .ok (.aload_n 0, 1) := by decide +kernel
theorem dX12_behindSum_1 : decode cX12_behindSum 1 = .ok (.bipush 43, 2) := by decide +kernel
theorem dX12_behindSum_3 : decode cX12_behindSum 3 = .ok (.invokevirtual 222, 3) := by decide +kernel
theorem dX12_behindSum_6 : decode cX12_behindSum 6 = .ok (.ifCond .eq 8, 3) := by decide +kernel
theorem dX12_behindSum_9 : decode cX12_behindSum 9 = .ok (.bipush 19, 2) := by decide +kernel
theorem dX12_behindSum_11 : decode cX12_behindSum 11 = .ok (.goto 60, 3) := by decide +kernel
theorem dX12_behindSum_14 : decode cX12_behindSum 14 = .ok (.aload_n 0, 1) := by decide +kernel
theorem dX12_behindSum_15 : decode cX12_behindSum 15 = .ok (.bipush 45, 2) := by decide +kernel
theorem dX12_behindSum_17 : decode cX12_behindSum 17 = .ok (.invokevirtual 222, 3) := by decide +kernel
theorem dX12_behindSum_20 : decode cX12_behindSum 20 = .ok (.ifCond .eq 8, 3) := by decide +kernel
theorem dX12_behindSum_23 : decode cX12_behindSum 23 = .ok (.bipush 20, 2) := by decide +kernel
theorem dX12_behindSum_25 : decode cX12_behindSum 25 = .ok (.goto 46, 3) := by decide +kernel
theorem dX12_behindSum_28 : decode cX12_behindSum 28 = .ok (.aload_n 0, 1) := by decide +kernel
theorem dX12_behindSum_29 : decode cX12_behindSum 29 = .ok (.bipush 42, 2) := by decide +kernel
theorem dX12_behindSum_31 : decode cX12_behindSum 31 = .ok (.invokevirtual 222, 3) := by decide +kernel
theorem dX12_behindSum_34 : decode cX12_behindSum 34 = .ok (.ifCond .eq 8, 3) := by decide +kernel
theorem dX12_behindSum_37 : decode cX12_behindSum 37 = .ok (.bipush 21, 2) := by decide +kernel
theorem dX12_behindSum_39 : decode cX12_behindSum 39 = .ok (.goto 32, 3) := by decide +kernel
theorem dX12_behindSum_42 : decode cX12_behindSum 42 = .ok (.aload_n 0, 1) := by decide +kernel
theorem dX12_behindSum_43 : decode cX12_behindSum 43 = .ok (.bipush 47, 2) := by decide +kernel
theorem dX12_behindSum_45 : decode cX12_behindSum 45 = .ok (.invokevirtual 222, 3) := by decide +kernel
theorem dX12_behindSum_48 : decode cX12_behindSum 48 = .ok (.ifCond .eq 8, 3) := by decide +kernel
theorem dX12_behindSum_51 : decode cX12_behindSum 51 = .ok (.bipush 23, 2) := by decide +kernel
theorem dX12_behindSum_53 : decode cX12_behindSum 53 = .ok (.goto 18, 3) := by decide +kernel
theorem dX12_behindSum_56 : decode cX12_behindSum 56 = .ok (.aload_n 0, 1) := by decide +kernel
theorem dX12_behindSum_57 : decode cX12_behindSum 57 = .ok (.bipush 37, 2) := by decide +kernel
theorem dX12_behindSum_59 : decode cX12_behindSum 59 = .ok (.invokevirtual 222, 3) := by decide +kernel
theorem dX12_behindSum_62 : decode cX12_behindSum 62 = .ok (.ifCond .eq 8, 3) := by decide +kernel
theorem dX12_behindSum_65 : decode cX12_behindSum 65 = .ok (.bipush 22, 2) := by decide +kernel
theorem dX12_behindSum_67 : decode cX12_behindSum 67 = .ok (.goto 4, 3) := by decide +kernel
theorem dX12_behindSum_70 : decode cX12_behindSum 70 = .ok (.iconst (-1), 1) := by decide +kernel
theorem dX12_behindSum_71 : decode cX12_behindSum 71 = .ok (.istore_n 2, 1) := by decide +kernel
theorem dX12_behindSum_72 : decode cX12_behindSum 72 = .ok (.iload_n 2, 1) := by decide +kernel
theorem dX12_behindSum_73 : decode cX12_behindSum 73 = .ok (.iconst (-1), 1) := by decide +kernel
theorem dX12_behindSum_74 : decode cX12_behindSum 74 = .ok (.if_icmp .eq 23, 3) := by decide +kernel
theorem dX12_behindSum_77 : decode cX12_behindSum 77 = .ok (.aload_n 0, 1) := by decide +kernel
theorem dX12_behindSum_78 : decode cX12_behindSum 78 = .ok (.iload_n 2, 1) := by decide +kernel
theorem dX12_behindSum_79 : decode cX12_behindSum 79 = .ok (.invokestatic 194, 3) := by decide +kernel
theorem dX12_behindSum_82 : decode cX12_behindSum 82 = .ok (.invokevirtual 243, 3) := by decide +kernel
theorem dX12_behindSum_85 : decode cX12_behindSum 85 = .ok (.aload_n 0, 1) := by decide +kernel
theorem dX12_behindSum_86 : decode cX12_behindSum 86 = .ok (.iload_n 2, 1) := by decide +kernel
theorem dX12_behindSum_87 : decode cX12_behindSum 87 = .ok (.iconst 0, 1) := by decide +kernel
theorem dX12_behindSum_88 : decode cX12_behindSum 88 = .ok (.invokevirtual 216, 3) := by decide +kernel
theorem dX12_behindSum_91 : decode cX12_behindSum 91 = .ok (.aload_n 0, 1) := by decide +kernel
theorem dX12_behindSum_92 : decode cX12_behindSum 92 = .ok (.invokevirtual 155, 3) := by decide +kernel
theorem dX12_behindSum_95 : decode cX12_behindSum 95 = .ok (.iconst 1, 1) := by decide +kernel
theorem dX12_behindSum_96 : decode cX12_behindSum 96 = .ok (.ireturn, 1) := by decide +kernel
theorem dX12_behindSum_97 : decode cX12_behindSum 97 = .ok (.aload_n 0, 1) := by decide +kernel
theorem dX12_behindSum_98 : decode cX12_behindSum 98 = .ok (.invokevirtual 246, 3) := by decide +kernel
theorem dX12_behindSum_101 : decode cX12_behindSum 101 = .ok (.istore_n 3, 1) := by decide +kernel
theorem dX12_behindSum_102 : decode cX12_behindSum 102 = .ok (.iload_n 3, 1) := by decide +kernel
theorem dX12_behindSum_103 : decode cX12_behindSum 103 = .ok (.bipush 31, 2) := by decide +kernel
theorem dX12_behindSum_105 : decode cX12_behindSum 105 = .ok (.if_icmp .ne 47, 3) := by decide +kernel
theorem dX12_behindSum_108 : decode cX12_behindSum 108 = .ok (.aload_n 0, 1) := by decide +kernel
theorem dX12_behindSum_109 : decode cX12_behindSum 109 = .ok (.aload_n 0, 1) := by decide +kernel
theorem dX12_behindSum_110 : decode cX12_behindSum 110 = .ok (.bipush 93, 2) := by decide +kernel
theorem dX12_behindSum_112 : decode cX12_behindSum 112 = .ok (.invokevirtual 222, 3) := by decide +kernel
theorem dX12_behindSum_115 : decode cX12_behindSum 115 = .ok (.invokevirtual 184, 3) := by decide +kernel
theorem dX12_behindSum_118 : decode cX12_behindSum 118 = .ok (.aload_n 0, 1) := by decide +kernel
theorem dX12_behindSum_119 : decode cX12_behindSum 119 = .ok (.getfield 151, 3) := by decide +kernel
theorem dX12_behindSum_122 : decode cX12_behindSum 122 = .ok (.ifCond .ne 28, 3) := by decide +kernel
theorem dX12_behindSum_125 : decode cX12_behindSum 125 = .ok (.aload_n 0, 1) := by decide +kernel
theorem dX12_behindSum_126 : decode cX12_behindSum 126 = .ok (.iconst 5, 1) := by decide +kernel
theorem dX12_behindSum_127 : decode cX12_behindSum 127 = .ok (.invokevirtual 243, 3) := by decide +kernel
theorem dX12_behindSum_130 : decode cX12_behindSum 130 = .ok (.aload_n 0, 1) := by decide +kernel
theorem dX12_behindSum_131 : decode cX12_behindSum 131 = .ok (.dup, 1) := by decide +kernel
theorem dX12_behindSum_132 : decode cX12_behindSum 132 = .ok (.getfield 191, 3) := by decide +kernel
theorem dX12_behindSum_135 : decode cX12_behindSum 135 = .ok (.iconst 1, 1) := by decide +kernel
theorem dX12_behindSum_136 : decode cX12_behindSum 136 = .ok (.isub, 1) := by decide +kernel
theorem dX12_behindSum_137 : decode cX12_behindSum 137 = .ok (.putfield 191, 3) := by decide +kernel
theorem dX12_behindSum_140 : decode cX12_behindSum 140 = .ok (.aload_n 0, 1) := by decide +kernel
theorem dX12_behindSum_141 : decode cX12_behindSum 141 = .ok (.dup, 1) := by decide +kernel
theorem dX12_behindSum_142 : decode cX12_behindSum 142 = .ok (.getfield 213, 3) := by decide +kernel
theorem dX12_behindSum_145 : decode cX12_behindSum 145 = .ok (.iconst 1, 1) := by decide +kernel
theorem dX12_behindSum_146 : decode cX12_behindSum 146 = .ok (.isub, 1) := by decide +kernel
theorem dX12_behindSum_147 : decode cX12_behindSum 147 = .ok (.putfield 213, 3) := by decide +kernel
theorem dX12_behindSum_150 : decode cX12_behindSum 150 = .ok (.iconst 3, 1) := by decide +kernel
theorem dX12_behindSum_151 : decode cX12_behindSum 151 = .ok (.ireturn, 1) := by decide +kernel
theorem dX12_behindSum_152 : decode cX12_behindSum 152 = .ok (.iload_n 3, 1) := by decide +kernel
theorem dX12_behindSum_153 : decode cX12_behindSum 153 = .ok (.iconst (-1), 1) := by decide +kernel
theorem dX12_behindSum_154 : decode cX12_behindSum 154 = .ok (.if_icmp .ne 9, 3) := by decide +kernel
theorem dX12_behindSum_157 : decode cX12_behindSum 157 = .ok (.iload_n 1, 1) := by decide +kernel
theorem dX12_behindSum_158 : decode cX12_behindSum 158 = .ok (.ifCond .ne 5, 3) := by decide +kernel
theorem dX12_behindSum_161 : decode cX12_behindSum 161 = .ok (.iconst 4, 1) := by decide +kernel
theorem dX12_behindSum_162 : decode cX12_behindSum 162 = .ok (.ireturn, 1) := by decide +kernel
theorem dX12_behindSum_163 : decode cX12_behindSum 163 = .ok (.aload_n 0, 1) := by decide +kernel
theorem dX12_behindSum_164 : decode cX12_behindSum 164 = .ok (.invokevirtual 249, 3) := by decide +kernel
theorem dX12_behindSum_167 : decode cX12_behindSum 167 = .ok (.ifCond .eq 5, 3) := by decide +kernel
theorem dX12_behindSum_170 : decode cX12_behindSum 170 = .ok (.iconst 2, 1) := by decide +kernel
theorem dX12_behindSum_171 : decode cX12_behindSum 171 = .ok (.ireturn, 1) := by decide +kernel
theorem dX12_behindSum_172 : decode cX12_behindSum 172 = .ok (.aload_n 0, 1) := by decide +kernel
theorem dX12_behindSum_173 : decode cX12_behindSum 173 = .ok (.bipush 60, 2) := by decide +kernel
theorem dX12_behindSum_175 : decode cX12_behindSum 175 = .ok (.invokevirtual 222, 3) := by decide +kernel
theorem dX12_behindSum_178 : decode cX12_behindSum 178 = .ok (.ifCond .eq 8, 3) := by decide +kernel
theorem dX12_behindSum_181 : decode cX12_behindSum 181 = .ok (.bipush 24, 2) := by decide +kernel
theorem dX12_behindSum_183 : decode cX12_behindSum 183 = .ok (.goto 19, 3) := by decide +kernel
theorem dX12_behindSum_186 : decode cX12_behindSum 186 = .ok (.aload_n 0, 1) := by decide +kernel
theorem dX12_behindSum_187 : decode cX12_behindSum 187 = .ok (.bipush 62, 2) := by decide +kernel
theorem dX12_behindSum_189 : decode cX12_behindSum 189 = .ok (.invokevirtual 222, 3) := by decide +kernel
theorem dX12_behindSum_192 : decode cX12_behindSum 192 = .ok (.ifCond .eq 8, 3) := by decide +kernel
theorem dX12_behindSum_195 : decode cX12_behindSum 195 = .ok (.bipush 25, 2) := by decide +kernel
theorem dX12_behindSum_197 : decode cX12_behindSum 197 = .ok (.goto 5, 3) := by decide +kernel
theorem dX12_behindSum_200 : decode cX12_behindSum 200 = .ok (.bipush 26, 2) := by decide +kernel
theorem dX12_behindSum_202 : decode cX12_behindSum 202 = .ok (.istore_n 2, 1) := by decide +kernel
theorem dX12_behindSum_203 : decode cX12_behindSum 203 = .ok (.aload_n 0, 1) := by decide +kernel
theorem dX12_behindSum_204 : decode cX12_behindSum 204 = .ok (.iload_n 2, 1) := by decide +kernel
theorem dX12_behindSum_205 : decode cX12_behindSum 205 = .ok (.bipush 26, 2) := by decide +kernel
theorem dX12_behindSum_207 : decode cX12_behindSum 207 = .ok (.if_icmp .ne 12, 3) := by decide +kernel
theorem dX12_behindSum_210 : decode cX12_behindSum 210 = .ok (.aload_n 0, 1) := by decide +kernel
theorem dX12_behindSum_211 : decode cX12_behindSum 211 = .ok (.bipush 61, 2) := by decide +kernel
theorem dX12_behindSum_213 : decode cX12_behindSum 213 = .ok (.invokevirtual 222, 3) := by decide +kernel
theorem dX12_behindSum_216 : decode cX12_behindSum 216 = .ok (.ifCond .eq 7, 3) := by decide +kernel
theorem dX12_behindSum_219 : decode cX12_behindSum 219 = .ok (.iconst 1, 1) := by decide +kernel
theorem dX12_behindSum_220 : decode cX12_behindSum 220 = .ok (.goto 4, 3) := by decide +kernel
theorem dX12_behindSum_223 : decode cX12_behindSum 223 = .ok (.iconst 0, 1) := by decide +kernel
theorem dX12_behindSum_224 : decode cX12_behindSum 224 = .ok (.invokevirtual 184, 3) := by decide +kernel
theorem dX12_behindSum_227 : decode cX12_behindSum 227 = .ok (.aload_n 0, 1) := by decide +kernel
theorem dX12_behindSum_228 : decode cX12_behindSum 228 = .ok (.getfield 151, 3) := by decide +kernel
theorem dX12_behindSum_231 : decode cX12_behindSum 231 = .ok (.ifCond .ne 14, 3) := by decide +kernel
theorem dX12_behindSum_234 : decode cX12_behindSum 234 = .ok (.aload_n 0, 1) := by decide +kernel
theorem dX12_behindSum_235 : decode cX12_behindSum 235 = .ok (.iconst 5, 1) := by decide +kernel
theorem dX12_behindSum_236 : decode cX12_behindSum 236 = .ok (.invokevirtual 243, 3) := by decide +kernel
theorem dX12_behindSum_239 : decode cX12_behindSum 239 = .ok (.aload_n 0, 1) := by decide +kernel
theorem dX12_behindSum_240 : decode cX12_behindSum 240 = .ok (.iload_n 2, 1) := by decide +kernel
theorem dX12_behindSum_241 : decode cX12_behindSum 241 = .ok (.iconst 0, 1) := by decide +kernel
theorem dX12_behindSum_242 : decode cX12_behindSum 242 = .ok (.invokevirtual 216, 3) := by decide +kernel
theorem dX12_behindSum_245 : decode cX12_behindSum 245 = .ok (.iconst 1, 1) := by decide +kernel
theorem dX12_behindSum_246 : decode cX12_behindSum 246 = .ok (.ireturn, 1) := by decide +kernel
theorem dX12_behindTest_0 : decode cX12_behindTest 0 = .ok (.aload_n 0, 1) := by decide +kernel
theorem dX12_behindTest_1 : decode cX12_behindTest 1 = .ok (.ldc2_w 253, 3) := by decide +kernel
theorem dX12_behindTest_4 : decode cX12_behindTest 4 = .ok (.invokevirtual 209, 3) := by decide +kernel
theorem dX12_behindTest_7 : decode cX12_behindTest 7 = .ok (.istore_n 1, 1) := by decide +kernel
theorem dX12_behindTest_8 : decode cX12_behindTest 8 = .ok (.iload_n 1, 1) := by decide +kernel
theorem dX12_behindTest_9 : decode cX12_behindTest 9 = .ok (.ifCond .ne 13, 3) := by decide +kernel
theorem dX12_behindTest_12 : decode cX12_behindTest 12 = .ok (.aload_n 0, 1) := by decide +kernel
theorem dX12_behindTest_13 : decode cX12_behindTest 13 = .ok (.ldc2_w 255, 3) := by decide +kernel
theorem dX12_behindTest_16 : decode cX12_behindTest 16 = .ok (.invokevirtual 209, 3) := by decide +kernel
theorem dX12_behindTest_19 : decode cX12_behindTest 19 = .ok (.ifCond .eq 57, 3) := by decide +kernel
theorem dX12_behindTest_22 : decode cX12_behindTest 22 = .ok (.aload_n 0, 1) := by decide +kernel
theorem dX12_behindTest_23 : decode cX12_behindTest 23 = .ok (.iload_n 1, 1) := by decide +kernel
theorem dX12_behindTest_24 : decode cX12_behindTest 24 = .ok (.ifCond .eq 7, 3) := by decide +kernel
theorem dX12_behindTest_27 : decode cX12_behindTest 27 = .ok (.iconst 2, 1) := by decide +kernel
theorem dX12_behindTest_28 : decode cX12_behindTest 28 = .ok (.goto 4, 3) := by decide +kernel
theorem dX12_behindTest_31 : decode cX12_behindTest 31 = .ok (.iconst 1, 1) := by decide +kernel
theorem dX12_behindTest_32 : decode cX12_behindTest 32 = .ok (.invokevirtual 243, 3) := by decide +kernel
theorem dX12_behindTest_35 : decode cX12_behindTest 35 = .ok (.aload_n 0, 1) := by decide +kernel
theorem dX12_behindTest_36 : decode cX12_behindTest 36 = .ok (.iload_n 1, 1) := by decide +kernel
theorem dX12_behindTest_37 : decode cX12_behindTest 37 = .ok (.ifCond .eq 8, 3) := by decide +kernel
theorem dX12_behindTest_40 : decode cX12_behindTest 40 = .ok (.bipush 28, 2) := by decide +kernel
theorem dX12_behindTest_42 : decode cX12_behindTest 42 = .ok (.goto 5, 3) := by decide +kernel
theorem dX12_behindTest_45 : decode cX12_behindTest 45 = .ok (.bipush 29, 2) := by decide +kernel
theorem dX12_behindTest_47 : decode cX12_behindTest 47 = .ok (.aload_n 0, 1) := by decide +kernel
theorem dX12_behindTest_48 : decode cX12_behindTest 48 = .ok (.getfield 188, 3) := by decide +kernel
theorem dX12_behindTest_51 : decode cX12_behindTest 51 = .ok (.invokevirtual 216, 3) := by decide +kernel
theorem dX12_behindTest_54 : decode cX12_behindTest 54 = .ok (.aload_n 0, 1) := by decide +kernel
theorem dX12_behindTest_55 : decode cX12_behindTest 55 = .ok (.iload_n 1, 1) := by decide +kernel
theorem dX12_behindTest_56 : decode cX12_behindTest 56 = .ok (.ifCond .eq 8, 3) := by decide +kernel
theorem dX12_behindTest_59 : decode cX12_behindTest 59 = .ok (.bipush 28, 2) := by decide +kernel
theorem dX12_behindTest_61 : decode cX12_behindTest 61 = .ok (.goto 5, 3) := by decide +kernel
theorem dX12_behindTest_64 : decode cX12_behindTest 64 = .ok (.bipush 29, 2) := by decide +kernel
theorem dX12_behindTest_66 : decode cX12_behindTest 66 = .ok (.iconst 0, 1) := by decide +kernel
theorem dX12_behindTest_67 : decode cX12_behindTest 67 = .ok (.invokevirtual 197, 3) := by decide +kernel
theorem dX12_behindTest_70 : decode cX12_behindTest 70 = .ok (.aload_n 0, 1) := by decide +kernel
theorem dX12_behindTest_71 : decode cX12_behindTest 71 = .ok (.invokevirtual 155, 3) := by decide +kernel
theorem dX12_behindTest_74 : decode cX12_behindTest 74 = .ok (.iconst 0, 1) := by decide +kernel
theorem dX12_behindTest_75 : decode cX12_behindTest 75 = .ok (.ireturn, 1) := by decide +kernel
theorem dX12_behindTest_76 : decode cX12_behindTest 76 = .ok (.aload_n 0, 1) := by decide +kernel
theorem dX12_behindTest_77 : decode cX12_behindTest 77 = .ok (.invokevirtual 246, 3) := by decide +kernel
theorem dX12_behindTest_80 : decode cX12_behindTest 80 = .ok (.iconst (-1), 1) := by decide +kernel
theorem dX12_behindTest_81 : decode cX12_behindTest 81 = .ok (.if_icmp .ne 5, 3) := by decide +kernel
theorem dX12_behindTest_84 : decode cX12_behindTest 84 = .ok (.iconst 4, 1) := by decide +kernel
theorem dX12_behindTest_85 : decode cX12_behindTest 85 = .ok (.ireturn, 1) := by decide +kernel
theorem dX12_behindTest_86 : decode cX12_behindTest 86 = .ok (.aload_n 0, 1) := by decide +kernel
theorem dX12_behindTest_87 : decode cX12_behindTest 87 = .ok (.aload_n 0, 1) := by decide +kernel
theorem dX12_behindTest_88 : decode cX12_behindTest 88 = .ok (.bipush 41, 2) := by decide +kernel
theorem dX12_behindTest_90 : decode cX12_behindTest 90 = .ok (.invokevirtual 222, 3) := by decide +kernel
theorem dX12_behindTest_93 : decode cX12_behindTest 93 = .ok (.invokevirtual 184, 3) := by decide +kernel
theorem dX12_behindTest_96 : decode cX12_behindTest 96 = .ok (.aload_n 0, 1) := by decide +kernel
theorem dX12_behindTest_97 : decode cX12_behindTest 97 = .ok (.getfield 151, 3) := by decide +kernel
theorem dX12_behindTest_100 : decode cX12_behindTest 100 = .ok (.ifCond .ne 28, 3) := by decide +kernel
theorem dX12_behindTest_103 : decode cX12_behindTest 103 = .ok (.aload_n 0, 1) := by decide +kernel
theorem dX12_behindTest_104 : decode cX12_behindTest 104 = .ok (.iconst 1, 1) := by decide +kernel
theorem dX12_behindTest_105 : decode cX12_behindTest 105 = .ok (.invokevirtual 243, 3) := by decide +kernel
theorem dX12_behindTest_108 : decode cX12_behindTest 108 = .ok (.aload_n 0, 1) := by decide +kernel
theorem dX12_behindTest_109 : decode cX12_behindTest 109 = .ok (.dup, 1) := by decide +kernel
theorem dX12_behindTest_110 : decode cX12_behindTest 110 = .ok (.getfield 191, 3) := by decide +kernel
theorem dX12_behindTest_113 : decode cX12_behindTest 113 = .ok (.iconst 1, 1) := by decide +kernel
theorem dX12_behindTest_114 : decode cX12_behindTest 114 = .ok (.isub, 1) := by decide +kernel
theorem dX12_behindTest_115 : decode cX12_behindTest 115 = .ok (.putfield 191, 3) := by decide +kernel
theorem dX12_behindTest_118 : decode cX12_behindTest 118 = .ok (.aload_n 0, 1) := by decide +kernel
theorem dX12_behindTest_119 : decode cX12_behindTest 119 = .ok (.dup, 1) := by decide +kernel
theorem dX12_behindTest_120 : decode cX12_behindTest 120 = .ok (.getfield 213, 3) := by decide +kernel
theorem dX12_behindTest_123 : decode cX12_behindTest 123 = .ok (.iconst 1, 1) := by decide +kernel
theorem dX12_behindTest_124 : decode cX12_behindTest 124 = .ok (.isub, 1) := by decide +kernel
theorem dX12_behindTest_125 : decode cX12_behindTest 125 = .ok (.putfield 213, 3) := by decide +kernel
theorem dX12_behindTest_128 : decode cX12_behindTest 128 = .ok (.iconst 2, 1) := by decide +kernel
theorem dX12_behindTest_129 : decode cX12_behindTest 129 = .ok (.ireturn, 1) := by decide +kernel
theorem dX12_readExpression_0 : decode cX12_readExpression 0 = .ok (.aload_n 0, 1) := by decide +kernel
theorem dX12_readExpression_1 : decode cX12_readExpression 1 = .ok (.iconst 0, 1) := by decide +kernel
theorem dX12_readExpression_2 : decode cX12_readExpression 2 = .ok (.putfield 191, 3) := by decide +kernel
theorem dX12_readExpression_5 : decode cX12_readExpression 5 = .ok (.aload_n 0, 1) := by decide +kernel
theorem dX12_readExpression_6 : decode cX12_readExpression 6 = .ok (.iconst 0, 1) := by decide +kernel
theorem dX12_readExpression_7 : decode cX12_readExpression 7 = .ok (.putfield 213, 3) := by decide +kernel
theorem dX12_readExpression_10 : decode cX12_readExpression 10 = .ok (.iload_n 1, 1) := by decide +kernel
theorem dX12_readExpression_11 : decode cX12_readExpression 11 = .ok (.ifCond .eq 7, 3) := by decide +kernel
theorem dX12_readExpression_14 : decode cX12_readExpression 14 = .ok (.iconst 0, 1) := by decide +kernel
theorem dX12_readExpression_15 : decode cX12_readExpression 15 = .ok (.goto 4, 3) := by decide +kernel
theorem dX12_readExpression_18 : decode cX12_readExpression 18 = .ok (.iconst 1, 1) := by decide +kernel
theorem dX12_readExpression_19 : decode cX12_readExpression 19 = .ok (.istore_n 2, 1) := by decide +kernel
theorem dX12_readExpression_20 : decode cX12_readExpression 20 = .ok (.aload_n 0, 1) := by decide +kernel
theorem dX12_readExpression_21 : decode cX12_readExpression 21 = .ok (.getfield 151, 3) := by decide +kernel
theorem dX12_readExpression_24 : decode cX12_readExpression 24 = .ok (.ifCond .ne 52, 3) := by decide +kernel
theorem dX12_readExpression_27 : decode cX12_readExpression 27 = .ok (.iload_n 2, 1) := by decide +kernel
theorem dX12_readExpression_28 : decode cX12_readExpression 28 = .ok (.iconst 4, 1) := by decide +kernel
theorem dX12_readExpression_29 : decode cX12_readExpression 29 = .ok (.if_icmp .eq 47, 3) := by decide +kernel
theorem dX12_readExpression_32 : decode cX12_readExpression 32 = .ok (.iload_n 2, 1) := by decide +kernel
theorem dX12_readExpression_33 : decode cX12_readExpression 33 = .ok (.ifCond .ne 10, 3) := by decide +kernel
theorem dX12_readExpression_36 : decode cX12_readExpression 36 = .ok (.aload_n 0, 1) := by decide +kernel
theorem dX12_readExpression_37 : decode cX12_readExpression 37 = .ok (.invokevirtual 257, 3) := by decide +kernel
theorem dX12_readExpression_40 : decode cX12_readExpression 40 = .ok (.goto 32, 3) := by decide +kernel
theorem dX12_readExpression_43 : decode cX12_readExpression 43 = .ok (.iload_n 2, 1) := by decide +kernel
theorem dX12_readExpression_44 : decode cX12_readExpression 44 = .ok (.iconst 1, 1) := by decide +kernel
theorem dX12_readExpression_45 : decode cX12_readExpression 45 = .ok (.if_icmp .ne 10, 3) := by decide +kernel
theorem dX12_readExpression_48 : decode cX12_readExpression 48 = .ok (.aload_n 0, 1) := by decide +kernel
theorem dX12_readExpression_49 : decode cX12_readExpression 49 = .ok (.invokevirtual 240, 3) := by decide +kernel
theorem dX12_readExpression_52 : decode cX12_readExpression 52 = .ok (.goto 20, 3) := by decide +kernel
theorem dX12_readExpression_55 : decode cX12_readExpression 55 = .ok (.iload_n 2, 1) := by decide +kernel
theorem dX12_readExpression_56 : decode cX12_readExpression 56 = .ok (.iconst 3, 1) := by decide +kernel
theorem dX12_readExpression_57 : decode cX12_readExpression 57 = .ok (.if_icmp .ne 11, 3) := by decide +kernel
theorem dX12_readExpression_60 : decode cX12_readExpression 60 = .ok (.aload_n 0, 1) := by decide +kernel
theorem dX12_readExpression_61 : decode cX12_readExpression 61 = .ok (.iload_n 1, 1) := by decide +kernel
theorem dX12_readExpression_62 : decode cX12_readExpression 62 = .ok (.invokevirtual 260, 3) := by decide +kernel
theorem dX12_readExpression_65 : decode cX12_readExpression 65 = .ok (.goto 7, 3) := by decide +kernel
theorem dX12_readExpression_68 : decode cX12_readExpression 68 = .ok (.aload_n 0, 1) := by decide +kernel
theorem dX12_readExpression_69 : decode cX12_readExpression 69 = .ok (.invokevirtual 264, 3) := by decide +kernel
theorem dX12_readExpression_72 : decode cX12_readExpression 72 = .ok (.istore_n 2, 1) := by decide +kernel
theorem dX12_readExpression_73 : decode cX12_readExpression 73 = .ok (.goto (-53), 3) := by decide +kernel
theorem dX12_readExpression_76 : decode cX12_readExpression 76 = .ok (.aload_n 0, 1) := by decide +kernel
theorem dX12_readExpression_77 : decode cX12_readExpression 77 = .ok (.iconst 1, 1) := by decide +kernel
theorem dX12_readExpression_78 : decode cX12_readExpression 78 = .ok (.invokevirtual 243, 3) := by decide +kernel
theorem dX12_readExpression_81 : decode cX12_readExpression 81 = .ok (.return_, 1) := by decide +kernel
theorem dX12_readClause_0 : decode cX12_readClause 0 = .ok (.aload_n 0, 1) := by decide +kernel
theorem dX12_readClause_1 : decode cX12_readClause 1 = .ok (.aload_n 0, 1) := by decide +kernel
theorem dX12_readClause_2 : decode cX12_readClause 2 = .ok (.ldc2_w 267, 3) := by decide +kernel
theorem dX12_readClause_5 : decode cX12_readClause 5 = .ok (.invokevirtual 209, 3) := by decide +kernel
theorem dX12_readClause_8 : decode cX12_readClause 8 = .ok (.ifCond .eq 16, 3) := by decide +kernel
theorem dX12_readClause_11 : decode cX12_readClause 11 = .ok (.aload_n 0, 1) := by decide +kernel
theorem dX12_readClause_12 : decode cX12_readClause 12 = .ok (.getfield 269, 3) := by decide +kernel
theorem dX12_readClause_15 : decode cX12_readClause 15 = .ok (.bipush 12, 2) := by decide +kernel
theorem dX12_readClause_17 : decode cX12_readClause 17 = .ok (.if_icmp .ge 7, 3) := by decide +kernel
theorem dX12_readClause_20 : decode cX12_readClause 20 = .ok (.iconst 1, 1) := by decide +kernel
theorem dX12_readClause_21 : decode cX12_readClause 21 = .ok (.goto 4, 3) := by decide +kernel
theorem dX12_readClause_24 : decode cX12_readClause 24 = .ok (.iconst 0, 1) := by decide +kernel
theorem dX12_readClause_25 : decode cX12_readClause 25 = .ok (.invokevirtual 184, 3) := by decide +kernel
theorem dX12_readClause_28 : decode cX12_readClause 28 = .ok (.aload_n 0, 1) := by decide +kernel
theorem dX12_readClause_29 : decode cX12_readClause 29 = .ok (.getfield 151, 3) := by decide +kernel
theorem dX12_readClause_32 : decode cX12_readClause 32 = .ok (.ifCond .eq 4, 3) := by decide +kernel
theorem dX12_readClause_35 : decode cX12_readClause 35 = .ok (.return_, 1) := by decide +kernel
theorem dX12_readClause_36 : decode cX12_readClause 36 = .ok (.bipush 8, 2) := by decide +kernel
theorem dX12_readClause_38 : decode cX12_readClause 38 = .ok (.aload_n 0, 1) := by decide +kernel
theorem dX12_readClause_39 : decode cX12_readClause 39 = .ok (.getfield 269, 3) := by decide +kernel
theorem dX12_readClause_42 : decode cX12_readClause 42 = .ok (.imul, 1) := by decide +kernel
theorem dX12_readClause_43 : decode cX12_readClause 43 = .ok (.istore_n 1, 1) := by decide +kernel
theorem dX12_readClause_44 : decode cX12_readClause 44 = .ok (.iconst 0, 1) := by decide +kernel
theorem dX12_readClause_45 : decode cX12_readClause 45 = .ok (.istore_n 2, 1) := by decide +kernel
theorem dX12_readClause_46 : decode cX12_readClause 46 = .ok (.iload_n 2, 1) := by decide +kernel
theorem dX12_readClause_47 : decode cX12_readClause 47 = .ok (.bipush 8, 2) := by decide +kernel
theorem dX12_readClause_49 : decode cX12_readClause 49 = .ok (.if_icmp .ge 18, 3) := by decide +kernel
theorem dX12_readClause_52 : decode cX12_readClause 52 = .ok (.aload_n 0, 1) := by decide +kernel
theorem dX12_readClause_53 : decode cX12_readClause 53 = .ok (.getfield 30, 3) := by decide +kernel
theorem dX12_readClause_56 : decode cX12_readClause 56 = .ok (.iload_n 1, 1) := by decide +kernel
theorem dX12_readClause_57 : decode cX12_readClause 57 = .ok (.iload_n 2, 1) := by decide +kernel
theorem dX12_readClause_58 : decode cX12_readClause 58 = .ok (.iadd, 1) := by decide +kernel
theorem dX12_readClause_59 : decode cX12_readClause 59 = .ok (.iconst 0, 1) := by decide +kernel
theorem dX12_readClause_60 : decode cX12_readClause 60 = .ok (.iastore, 1) := by decide +kernel
theorem dX12_readClause_61 : decode cX12_readClause 61 = .ok (.iinc 2 1, 3) := by decide +kernel
theorem dX12_readClause_64 : decode cX12_readClause 64 = .ok (.goto (-18), 3) := by decide +kernel
theorem dX12_readClause_67 : decode cX12_readClause 67 = .ok (.aload_n 0, 1) := by decide +kernel
theorem dX12_readClause_68 : decode cX12_readClause 68 = .ok (.dup, 1) := by decide +kernel
theorem dX12_readClause_69 : decode cX12_readClause 69 = .ok (.getfield 269, 3) := by decide +kernel
theorem dX12_readClause_72 : decode cX12_readClause 72 = .ok (.iconst 1, 1) := by decide +kernel
theorem dX12_readClause_73 : decode cX12_readClause 73 = .ok (.iadd, 1) := by decide +kernel
theorem dX12_readClause_74 : decode cX12_readClause 74 = .ok (.putfield 269, 3) := by decide +kernel
theorem dX12_readClause_77 : decode cX12_readClause 77 = .ok (.aload_n 0, 1) := by decide +kernel
theorem dX12_readClause_78 : decode cX12_readClause 78 = .ok (.getfield 30, 3) := by decide +kernel
theorem dX12_readClause_81 : decode cX12_readClause 81 = .ok (.iload_n 1, 1) := by decide +kernel
theorem dX12_readClause_82 : decode cX12_readClause 82 = .ok (.iconst 3, 1) := by decide +kernel
theorem dX12_readClause_83 : decode cX12_readClause 83 = .ok (.iadd, 1) := by decide +kernel
theorem dX12_readClause_84 : decode cX12_readClause 84 = .ok (.aload_n 0, 1) := by decide +kernel
theorem dX12_readClause_85 : decode cX12_readClause 85 = .ok (.getfield 188, 3) := by decide +kernel
theorem dX12_readClause_88 : decode cX12_readClause 88 = .ok (.iastore, 1) := by decide +kernel
theorem dX12_readClause_89 : decode cX12_readClause 89 = .ok (.aload_n 0, 1) := by decide +kernel
theorem dX12_readClause_90 : decode cX12_readClause 90 = .ok (.iconst 0, 1) := by decide +kernel
theorem dX12_readClause_91 : decode cX12_readClause 91 = .ok (.invokevirtual 272, 3) := by decide +kernel
theorem dX12_readClause_94 : decode cX12_readClause 94 = .ok (.aload_n 0, 1) := by decide +kernel
theorem dX12_readClause_95 : decode cX12_readClause 95 = .ok (.getfield 30, 3) := by decide +kernel
theorem dX12_readClause_98 : decode cX12_readClause 98 = .ok (.iload_n 1, 1) := by decide +kernel
theorem dX12_readClause_99 : decode cX12_readClause 99 = .ok (.iconst 4, 1) := by decide +kernel
theorem dX12_readClause_100 : decode cX12_readClause 100 = .ok (.iadd, 1) := by decide +kernel
theorem dX12_readClause_101 : decode cX12_readClause 101 = .ok (.aload_n 0, 1) := by decide +kernel
theorem dX12_readClause_102 : decode cX12_readClause 102 = .ok (.getfield 188, 3) := by decide +kernel
theorem dX12_readClause_105 : decode cX12_readClause 105 = .ok (.iastore, 1) := by decide +kernel
theorem dX12_readClause_106 : decode cX12_readClause 106 = .ok (.aload_n 0, 1) := by decide +kernel
theorem dX12_readClause_107 : decode cX12_readClause 107 = .ok (.getfield 30, 3) := by decide +kernel
theorem dX12_readClause_110 : decode cX12_readClause 110 = .ok (.iload_n 1, 1) := by decide +kernel
theorem dX12_readClause_111 : decode cX12_readClause 111 = .ok (.iconst 5, 1) := by decide +kernel
theorem dX12_readClause_112 : decode cX12_readClause 112 = .ok (.iadd, 1) := by decide +kernel
theorem dX12_readClause_113 : decode cX12_readClause 113 = .ok (.aload_n 0, 1) := by decide +kernel
theorem dX12_readClause_114 : decode cX12_readClause 114 = .ok (.getfield 188, 3) := by decide +kernel
theorem dX12_readClause_117 : decode cX12_readClause 117 = .ok (.iastore, 1) := by decide +kernel
theorem dX12_readClause_118 : decode cX12_readClause 118 = .ok (.aload_n 0, 1) := by decide +kernel
theorem dX12_readClause_119 : decode cX12_readClause 119 = .ok (.getfield 151, 3) := by decide +kernel
theorem dX12_readClause_122 : decode cX12_readClause 122 = .ok (.ifCond .ne 22, 3) := by decide +kernel
theorem dX12_readClause_125 : decode cX12_readClause 125 = .ok (.aload_n 0, 1) := by decide +kernel
theorem dX12_readClause_126 : decode cX12_readClause 126 = .ok (.ldc2_w 275, 3) := by decide +kernel
theorem dX12_readClause_129 : decode cX12_readClause 129 = .ok (.invokevirtual 209, 3) := by decide +kernel
theorem dX12_readClause_132 : decode cX12_readClause 132 = .ok (.ifCond .eq 12, 3) := by decide +kernel
theorem dX12_readClause_135 : decode cX12_readClause 135 = .ok (.aload_n 0, 1) := by decide +kernel
theorem dX12_readClause_136 : decode cX12_readClause 136 = .ok (.invokevirtual 155, 3) := by decide +kernel
theorem dX12_readClause_139 : decode cX12_readClause 139 = .ok (.aload_n 0, 1) := by decide +kernel
theorem dX12_readClause_140 : decode cX12_readClause 140 = .ok (.iconst 1, 1) := by decide +kernel
theorem dX12_readClause_141 : decode cX12_readClause 141 = .ok (.invokevirtual 272, 3) := by decide +kernel
theorem dX12_readClause_144 : decode cX12_readClause 144 = .ok (.aload_n 0, 1) := by decide +kernel
theorem dX12_readClause_145 : decode cX12_readClause 145 = .ok (.getfield 30, 3) := by decide +kernel
theorem dX12_readClause_148 : decode cX12_readClause 148 = .ok (.iload_n 1, 1) := by decide +kernel
theorem dX12_readClause_149 : decode cX12_readClause 149 = .ok (.bipush 6, 2) := by decide +kernel
theorem dX12_readClause_151 : decode cX12_readClause 151 = .ok (.iadd, 1) := by decide +kernel
theorem dX12_readClause_152 : decode cX12_readClause 152 = .ok (.aload_n 0, 1) := by decide +kernel
theorem dX12_readClause_153 : decode cX12_readClause 153 = .ok (.getfield 188, 3) := by decide +kernel
theorem dX12_readClause_156 : decode cX12_readClause 156 = .ok (.iastore, 1) := by decide +kernel
theorem dX12_readClause_157 : decode cX12_readClause 157 = .ok (.return_, 1) := by decide +kernel
theorem dX12_law_0 : decode cX12_law 0 = .ok (.aload_n 0, 1) := by decide +kernel
theorem dX12_law_1 : decode cX12_law 1 = .ok (.iconst 0, 1) := by decide +kernel
theorem dX12_law_2 : decode cX12_law 2 = .ok (.putfield 88, 3) := by decide +kernel
theorem dX12_law_5 : decode cX12_law 5 = .ok (.aload_n 0, 1) := by decide +kernel
theorem dX12_law_6 : decode cX12_law 6 = .ok (.getfield 13, 3) := by decide +kernel
theorem dX12_law_9 : decode cX12_law 9 = .ok (.iconst 2, 1) := by decide +kernel
theorem dX12_law_10 : decode cX12_law 10 = .ok (.iaload, 1) := by decide +kernel
theorem dX12_law_11 : decode cX12_law 11 = .ok (.bipush 6, 2) := by decide +kernel
theorem dX12_law_13 : decode cX12_law 13 = .ok (.if_icmp .ne 15, 3) := by decide +kernel
theorem dX12_law_16 : decode cX12_law 16 = .ok (.aload_n 0, 1) := by decide +kernel
theorem dX12_law_17 : decode cX12_law 17 = .ok (.iconst 0, 1) := by decide +kernel
theorem dX12_law_18 : decode cX12_law 18 = .ok (.putfield 138, 3) := by decide +kernel
theorem dX12_law_21 : decode cX12_law 21 = .ok (.aload_n 0, 1) := by decide +kernel
theorem dX12_law_22 : decode cX12_law 22 = .ok (.bipush (-5), 2) := by decide +kernel
theorem dX12_law_24 : decode cX12_law 24 = .ok (.invokevirtual 102, 3) := by decide +kernel
theorem dX12_law_27 : decode cX12_law 27 = .ok (.ireturn, 1) := by decide +kernel
theorem dX12_law_28 : decode cX12_law 28 = .ok (.aload_n 0, 1) := by decide +kernel
theorem dX12_law_29 : decode cX12_law 29 = .ok (.invokevirtual 277, 3) := by decide +kernel
theorem dX12_law_32 : decode cX12_law 32 = .ok (.aload_n 0, 1) := by decide +kernel
theorem dX12_law_33 : decode cX12_law 33 = .ok (.iconst 0, 1) := by decide +kernel
theorem dX12_law_34 : decode cX12_law 34 = .ok (.putfield 269, 3) := by decide +kernel
theorem dX12_law_37 : decode cX12_law 37 = .ok (.aload_n 0, 1) := by decide +kernel
theorem dX12_law_38 : decode cX12_law 38 = .ok (.iconst 0, 1) := by decide +kernel
theorem dX12_law_39 : decode cX12_law 39 = .ok (.putfield 188, 3) := by decide +kernel
theorem dX12_law_42 : decode cX12_law 42 = .ok (.aload_n 0, 1) := by decide +kernel
theorem dX12_law_43 : decode cX12_law 43 = .ok (.iconst 0, 1) := by decide +kernel
theorem dX12_law_44 : decode cX12_law 44 = .ok (.putfield 219, 3) := by decide +kernel
theorem dX12_law_47 : decode cX12_law 47 = .ok (.aload_n 0, 1) := by decide +kernel
theorem dX12_law_48 : decode cX12_law 48 = .ok (.invokevirtual 280, 3) := by decide +kernel
theorem dX12_law_51 : decode cX12_law 51 = .ok (.aload_n 0, 1) := by decide +kernel
theorem dX12_law_52 : decode cX12_law 52 = .ok (.getfield 151, 3) := by decide +kernel
theorem dX12_law_55 : decode cX12_law 55 = .ok (.ifCond .ne 23, 3) := by decide +kernel
theorem dX12_law_58 : decode cX12_law 58 = .ok (.aload_n 0, 1) := by decide +kernel
theorem dX12_law_59 : decode cX12_law 59 = .ok (.bipush 59, 2) := by decide +kernel
theorem dX12_law_61 : decode cX12_law 61 = .ok (.invokevirtual 222, 3) := by decide +kernel
theorem dX12_law_64 : decode cX12_law 64 = .ok (.ifCond .eq 14, 3) := by decide +kernel
theorem dX12_law_67 : decode cX12_law 67 = .ok (.aload_n 0, 1) := by decide +kernel
theorem dX12_law_68 : decode cX12_law 68 = .ok (.invokevirtual 155, 3) := by decide +kernel
theorem dX12_law_71 : decode cX12_law 71 = .ok (.aload_n 0, 1) := by decide +kernel
theorem dX12_law_72 : decode cX12_law 72 = .ok (.invokevirtual 280, 3) := by decide +kernel
theorem dX12_law_75 : decode cX12_law 75 = .ok (.goto (-24), 3) := by decide +kernel
theorem dX12_law_78 : decode cX12_law 78 = .ok (.aload_n 0, 1) := by decide +kernel
theorem dX12_law_79 : decode cX12_law 79 = .ok (.getfield 151, 3) := by decide +kernel
theorem dX12_law_82 : decode cX12_law 82 = .ok (.ifCond .ne 15, 3) := by decide +kernel
theorem dX12_law_85 : decode cX12_law 85 = .ok (.aload_n 0, 1) := by decide +kernel
theorem dX12_law_86 : decode cX12_law 86 = .ok (.getfield 171, 3) := by decide +kernel
theorem dX12_law_89 : decode cX12_law 89 = .ok (.ifCond .eq 8, 3) := by decide +kernel
theorem dX12_law_92 : decode cX12_law 92 = .ok (.aload_n 0, 1) := by decide +kernel
theorem dX12_law_93 : decode cX12_law 93 = .ok (.iconst 0, 1) := by decide +kernel
theorem dX12_law_94 : decode cX12_law 94 = .ok (.invokevirtual 184, 3) := by decide +kernel
theorem dX12_law_97 : decode cX12_law 97 = .ok (.aload_n 0, 1) := by decide +kernel
theorem dX12_law_98 : decode cX12_law 98 = .ok (.iconst 0, 1) := by decide +kernel
theorem dX12_law_99 : decode cX12_law 99 = .ok (.putfield 138, 3) := by decide +kernel
theorem dX12_law_102 : decode cX12_law 102 = .ok (.aload_n 0, 1) := by decide +kernel
theorem dX12_law_103 : decode cX12_law 103 = .ok (.getfield 151, 3) := by decide +kernel
theorem dX12_law_106 : decode cX12_law 106 = .ok (.ifCond .eq 10, 3) := by decide +kernel
theorem dX12_law_109 : decode cX12_law 109 = .ok (.aload_n 0, 1) := by decide +kernel
theorem dX12_law_110 : decode cX12_law 110 = .ok (.bipush (-6), 2) := by decide +kernel
theorem dX12_law_112 : decode cX12_law 112 = .ok (.invokevirtual 102, 3) := by decide +kernel
theorem dX12_law_115 : decode cX12_law 115 = .ok (.ireturn, 1) := by decide +kernel
theorem dX12_law_116 : decode cX12_law 116 = .ok (.sipush 150, 3) := by decide +kernel
theorem dX12_law_119 : decode cX12_law 119 = .ok (.sipush 900, 3) := by decide +kernel
theorem dX12_law_122 : decode cX12_law 122 = .ok (.aload_n 0, 1) := by decide +kernel
theorem dX12_law_123 : decode cX12_law 123 = .ok (.getfield 13, 3) := by decide +kernel
theorem dX12_law_126 : decode cX12_law 126 = .ok (.iconst 2, 1) := by decide +kernel
theorem dX12_law_127 : decode cX12_law 127 = .ok (.iaload, 1) := by decide +kernel
theorem dX12_law_128 : decode cX12_law 128 = .ok (.imul, 1) := by decide +kernel
theorem dX12_law_129 : decode cX12_law 129 = .ok (.iadd, 1) := by decide +kernel
theorem dX12_law_130 : decode cX12_law 130 = .ok (.istore_n 1, 1) := by decide +kernel
theorem dX12_law_131 : decode cX12_law 131 = .ok (.aload_n 0, 1) := by decide +kernel
theorem dX12_law_132 : decode cX12_law 132 = .ok (.getfield 13, 3) := by decide +kernel
theorem dX12_law_135 : decode cX12_law 135 = .ok (.iload_n 1, 1) := by decide +kernel
theorem dX12_law_136 : decode cX12_law 136 = .ok (.iconst 1, 1) := by decide +kernel
theorem dX12_law_137 : decode cX12_law 137 = .ok (.iadd, 1) := by decide +kernel
theorem dX12_law_138 : decode cX12_law 138 = .ok (.aload_n 0, 1) := by decide +kernel
theorem dX12_law_139 : decode cX12_law 139 = .ok (.getfield 269, 3) := by decide +kernel
theorem dX12_law_142 : decode cX12_law 142 = .ok (.iastore, 1) := by decide +kernel
theorem dX12_law_143 : decode cX12_law 143 = .ok (.iconst 0, 1) := by decide +kernel
theorem dX12_law_144 : decode cX12_law 144 = .ok (.istore_n 2, 1) := by decide +kernel
theorem dX12_law_145 : decode cX12_law 145 = .ok (.iload_n 2, 1) := by decide +kernel
theorem dX12_law_146 : decode cX12_law 146 = .ok (.bipush 8, 2) := by decide +kernel
theorem dX12_law_148 : decode cX12_law 148 = .ok (.aload_n 0, 1) := by decide +kernel
theorem dX12_law_149 : decode cX12_law 149 = .ok (.getfield 269, 3) := by decide +kernel
theorem dX12_law_152 : decode cX12_law 152 = .ok (.imul, 1) := by decide +kernel
theorem dX12_law_153 : decode cX12_law 153 = .ok (.if_icmp .ge 25, 3) := by decide +kernel
theorem dX12_law_156 : decode cX12_law 156 = .ok (.aload_n 0, 1) := by decide +kernel
theorem dX12_law_157 : decode cX12_law 157 = .ok (.getfield 13, 3) := by decide +kernel
theorem dX12_law_160 : decode cX12_law 160 = .ok (.iload_n 1, 1) := by decide +kernel
theorem dX12_law_161 : decode cX12_law 161 = .ok (.iconst 2, 1) := by decide +kernel
theorem dX12_law_162 : decode cX12_law 162 = .ok (.iadd, 1) := by decide +kernel
theorem dX12_law_163 : decode cX12_law 163 = .ok (.iload_n 2, 1) := by decide +kernel
theorem dX12_law_164 : decode cX12_law 164 = .ok (.iadd, 1) := by decide +kernel
theorem dX12_law_165 : decode cX12_law 165 = .ok (.aload_n 0, 1) := by decide +kernel
theorem dX12_law_166 : decode cX12_law 166 = .ok (.getfield 30, 3) := by decide +kernel
theorem dX12_law_169 : decode cX12_law 169 = .ok (.iload_n 2, 1) := by decide +kernel
theorem dX12_law_170 : decode cX12_law 170 = .ok (.iaload, 1) := by decide +kernel
theorem dX12_law_171 : decode cX12_law 171 = .ok (.iastore, 1) := by decide +kernel
theorem dX12_law_172 : decode cX12_law 172 = .ok (.iinc 2 1, 3) := by decide +kernel
theorem dX12_law_175 : decode cX12_law 175 = .ok (.goto (-30), 3) := by decide +kernel
theorem dX12_law_178 : decode cX12_law 178 = .ok (.iconst 0, 1) := by decide +kernel
theorem dX12_law_179 : decode cX12_law 179 = .ok (.istore_n 2, 1) := by decide +kernel
theorem dX12_law_180 : decode cX12_law 180 = .ok (.iload_n 2, 1) := by decide +kernel
theorem dX12_law_181 : decode cX12_law 181 = .ok (.aload_n 0, 1) := by decide +kernel
theorem dX12_law_182 : decode cX12_law 182 = .ok (.getfield 188, 3) := by decide +kernel
theorem dX12_law_185 : decode cX12_law 185 = .ok (.if_icmp .ge 49, 3) := by decide +kernel
theorem dX12_law_188 : decode cX12_law 188 = .ok (.aload_n 0, 1) := by decide +kernel
theorem dX12_law_189 : decode cX12_law 189 = .ok (.getfield 13, 3) := by decide +kernel
theorem dX12_law_192 : decode cX12_law 192 = .ok (.iload_n 1, 1) := by decide +kernel
theorem dX12_law_193 : decode cX12_law 193 = .ok (.bipush 98, 2) := by decide +kernel
theorem dX12_law_195 : decode cX12_law 195 = .ok (.iadd, 1) := by decide +kernel
theorem dX12_law_196 : decode cX12_law 196 = .ok (.iconst 2, 1) := by decide +kernel
theorem dX12_law_197 : decode cX12_law 197 = .ok (.iload_n 2, 1) := by decide +kernel
theorem dX12_law_198 : decode cX12_law 198 = .ok (.imul, 1) := by decide +kernel
theorem dX12_law_199 : decode cX12_law 199 = .ok (.iadd, 1) := by decide +kernel
theorem dX12_law_200 : decode cX12_law 200 = .ok (.aload_n 0, 1) := by decide +kernel
theorem dX12_law_201 : decode cX12_law 201 = .ok (.getfield 33, 3) := by decide +kernel
theorem dX12_law_204 : decode cX12_law 204 = .ok (.iload_n 2, 1) := by decide +kernel
theorem dX12_law_205 : decode cX12_law 205 = .ok (.iaload, 1) := by decide +kernel
theorem dX12_law_206 : decode cX12_law 206 = .ok (.iastore, 1) := by decide +kernel
theorem dX12_law_207 : decode cX12_law 207 = .ok (.aload_n 0, 1) := by decide +kernel
theorem dX12_law_208 : decode cX12_law 208 = .ok (.getfield 13, 3) := by decide +kernel
theorem dX12_law_211 : decode cX12_law 211 = .ok (.iload_n 1, 1) := by decide +kernel
theorem dX12_law_212 : decode cX12_law 212 = .ok (.bipush 98, 2) := by decide +kernel
theorem dX12_law_214 : decode cX12_law 214 = .ok (.iadd, 1) := by decide +kernel
theorem dX12_law_215 : decode cX12_law 215 = .ok (.iconst 2, 1) := by decide +kernel
theorem dX12_law_216 : decode cX12_law 216 = .ok (.iload_n 2, 1) := by decide +kernel
theorem dX12_law_217 : decode cX12_law 217 = .ok (.imul, 1) := by decide +kernel
theorem dX12_law_218 : decode cX12_law 218 = .ok (.iadd, 1) := by decide +kernel
theorem dX12_law_219 : decode cX12_law 219 = .ok (.iconst 1, 1) := by decide +kernel
theorem dX12_law_220 : decode cX12_law 220 = .ok (.iadd, 1) := by decide +kernel
theorem dX12_law_221 : decode cX12_law 221 = .ok (.aload_n 0, 1) := by decide +kernel
theorem dX12_law_222 : decode cX12_law 222 = .ok (.getfield 36, 3) := by decide +kernel
theorem dX12_law_225 : decode cX12_law 225 = .ok (.iload_n 2, 1) := by decide +kernel
theorem dX12_law_226 : decode cX12_law 226 = .ok (.iaload, 1) := by decide +kernel
theorem dX12_law_227 : decode cX12_law 227 = .ok (.iastore, 1) := by decide +kernel
theorem dX12_law_228 : decode cX12_law 228 = .ok (.iinc 2 1, 3) := by decide +kernel
theorem dX12_law_231 : decode cX12_law 231 = .ok (.goto (-51), 3) := by decide +kernel
theorem dX12_law_234 : decode cX12_law 234 = .ok (.aload_n 0, 1) := by decide +kernel
theorem dX12_law_235 : decode cX12_law 235 = .ok (.getfield 13, 3) := by decide +kernel
theorem dX12_law_238 : decode cX12_law 238 = .ok (.iconst 2, 1) := by decide +kernel
theorem dX12_law_239 : decode cX12_law 239 = .ok (.dup2, 1) := by decide +kernel
theorem dX12_law_240 : decode cX12_law 240 = .ok (.iaload, 1) := by decide +kernel
theorem dX12_law_241 : decode cX12_law 241 = .ok (.iconst 1, 1) := by decide +kernel
theorem dX12_law_242 : decode cX12_law 242 = .ok (.iadd, 1) := by decide +kernel
theorem dX12_law_243 : decode cX12_law 243 = .ok (.iastore, 1) := by decide +kernel
theorem dX12_law_244 : decode cX12_law 244 = .ok (.aload_n 0, 1) := by decide +kernel
theorem dX12_law_245 : decode cX12_law 245 = .ok (.aload_n 0, 1) := by decide +kernel
theorem dX12_law_246 : decode cX12_law 246 = .ok (.getfield 13, 3) := by decide +kernel
theorem dX12_law_249 : decode cX12_law 249 = .ok (.iconst 2, 1) := by decide +kernel
theorem dX12_law_250 : decode cX12_law 250 = .ok (.iaload, 1) := by decide +kernel
theorem dX12_law_251 : decode cX12_law 251 = .ok (.iconst 1, 1) := by decide +kernel
theorem dX12_law_252 : decode cX12_law 252 = .ok (.isub, 1) := by decide +kernel
theorem dX12_law_253 : decode cX12_law 253 = .ok (.invokevirtual 102, 3) := by decide +kernel
theorem dX12_law_256 : decode cX12_law 256 = .ok (.ireturn, 1) := by decide +kernel
theorem dX12_force_0 : decode cX12_force 0 = .ok (.aload_n 0, 1) := by decide +kernel
theorem dX12_force_1 : decode cX12_force 1 = .ok (.iconst 0, 1) := by decide +kernel
theorem dX12_force_2 : decode cX12_force 2 = .ok (.putfield 88, 3) := by decide +kernel
theorem dX12_force_5 : decode cX12_force 5 = .ok (.iload_n 1, 1) := by decide +kernel
theorem dX12_force_6 : decode cX12_force 6 = .ok (.iconst (-1), 1) := by decide +kernel
theorem dX12_force_7 : decode cX12_force 7 = .ok (.if_icmp .eq 21, 3) := by decide +kernel
theorem dX12_force_10 : decode cX12_force 10 = .ok (.iload_n 1, 1) := by decide +kernel
theorem dX12_force_11 : decode cX12_force 11 = .ok (.i2l, 1) := by decide +kernel
theorem dX12_force_12 : decode cX12_force 12 = .ok (.lconst 0, 1) := by decide +kernel
theorem dX12_force_13 : decode cX12_force 13 = .ok (.aload_n 0, 1) := by decide +kernel
theorem dX12_force_14 : decode cX12_force 14 = .ok (.getfield 13, 3) := by decide +kernel
theorem dX12_force_17 : decode cX12_force 17 = .ok (.iconst 2, 1) := by decide +kernel
theorem dX12_force_18 : decode cX12_force 18 = .ok (.iaload, 1) := by decide +kernel
theorem dX12_force_19 : decode cX12_force 19 = .ok (.i2l, 1) := by decide +kernel
theorem dX12_force_20 : decode cX12_force 20 = .ok (.lconst 1, 1) := by decide +kernel
theorem dX12_force_21 : decode cX12_force 21 = .ok (.lsub, 1) := by decide +kernel
theorem dX12_force_22 : decode cX12_force 22 = .ok (.invokestatic 98, 3) := by decide +kernel
theorem dX12_force_25 : decode cX12_force 25 = .ok (.ifCond .eq 12, 3) := by decide +kernel
theorem dX12_force_28 : decode cX12_force 28 = .ok (.aload_n 0, 1) := by decide +kernel
theorem dX12_force_29 : decode cX12_force 29 = .ok (.iconst 3, 1) := by decide +kernel
theorem dX12_force_30 : decode cX12_force 30 = .ok (.iload_n 1, 1) := by decide +kernel
theorem dX12_force_31 : decode cX12_force 31 = .ok (.invokevirtual 119, 3) := by decide +kernel
theorem dX12_force_34 : decode cX12_force 34 = .ok (.goto 9, 3) := by decide +kernel
theorem dX12_force_37 : decode cX12_force 37 = .ok (.aload_n 0, 1) := by decide +kernel
theorem dX12_force_38 : decode cX12_force 38 = .ok (.bipush (-2), 2) := by decide +kernel
theorem dX12_force_40 : decode cX12_force 40 = .ok (.invokevirtual 102, 3) := by decide +kernel
theorem dX12_force_43 : decode cX12_force 43 = .ok (.ireturn, 1) := by decide +kernel
theorem dX12_reckon_0 : decode cX12_reckon 0 = .ok (.iload_n 1, 1) := by decide +kernel
theorem dX12_reckon_1 : decode cX12_reckon 1 = .ok (.tableswitch 148 19 25 #[43, 48, 53, 90, 58, 122, 135], 43) := by decide +kernel
theorem dX12_reckon_44 : decode cX12_reckon 44 = .ok (.lload_n 2, 1) := by decide +kernel
theorem dX12_reckon_45 : decode cX12_reckon 45 = .ok (.lload 4, 2) := by decide +kernel
theorem dX12_reckon_47 : decode cX12_reckon 47 = .ok (.ladd, 1) := by decide +kernel
theorem dX12_reckon_48 : decode cX12_reckon 48 = .ok (.lreturn, 1) := by decide +kernel
theorem dX12_reckon_49 : decode cX12_reckon 49 = .ok (.lload_n 2, 1) := by decide +kernel
theorem dX12_reckon_50 : decode cX12_reckon 50 = .ok (.lload 4, 2) := by decide +kernel
theorem dX12_reckon_52 : decode cX12_reckon 52 = .ok (.lsub, 1) := by decide +kernel
theorem dX12_reckon_53 : decode cX12_reckon 53 = .ok (.lreturn, 1) := by decide +kernel
theorem dX12_reckon_54 : decode cX12_reckon 54 = .ok (.lload_n 2, 1) := by decide +kernel
theorem dX12_reckon_55 : decode cX12_reckon 55 = .ok (.lload 4, 2) := by decide +kernel
theorem dX12_reckon_57 : decode cX12_reckon 57 = .ok (.lmul, 1) := by decide +kernel
theorem dX12_reckon_58 : decode cX12_reckon 58 = .ok (.lreturn, 1) := by decide +kernel
theorem dX12_reckon_59 : decode cX12_reckon 59 = .ok (.aload_n 0, 1) := by decide +kernel
theorem dX12_reckon_60 : decode cX12_reckon 60 = .ok (.lload 4, 2) := by decide +kernel
theorem dX12_reckon_62 : decode cX12_reckon 62 = .ok (.lconst 0, 1) := by decide +kernel
theorem dX12_reckon_63 : decode cX12_reckon 63 = .ok (.lcmp, 1) := by decide +kernel
theorem dX12_reckon_64 : decode cX12_reckon 64 = .ok (.ifCond .ne 7, 3) := by decide +kernel
theorem dX12_reckon_67 : decode cX12_reckon 67 = .ok (.iconst 1, 1) := by decide +kernel
theorem dX12_reckon_68 : decode cX12_reckon 68 = .ok (.goto 4, 3) := by decide +kernel
theorem dX12_reckon_71 : decode cX12_reckon 71 = .ok (.iconst 0, 1) := by decide +kernel
theorem dX12_reckon_72 : decode cX12_reckon 72 = .ok (.putfield 283, 3) := by decide +kernel
theorem dX12_reckon_75 : decode cX12_reckon 75 = .ok (.aload_n 0, 1) := by decide +kernel
theorem dX12_reckon_76 : decode cX12_reckon 76 = .ok (.getfield 283, 3) := by decide +kernel
theorem dX12_reckon_79 : decode cX12_reckon 79 = .ok (.ifCond .eq 7, 3) := by decide +kernel
theorem dX12_reckon_82 : decode cX12_reckon 82 = .ok (.lconst 0, 1) := by decide +kernel
theorem dX12_reckon_83 : decode cX12_reckon 83 = .ok (.goto 7, 3) := by decide +kernel
theorem dX12_reckon_86 : decode cX12_reckon 86 = .ok (.lload_n 2, 1) := by decide +kernel
theorem dX12_reckon_87 : decode cX12_reckon 87 = .ok (.lload 4, 2) := by decide +kernel
theorem dX12_reckon_89 : decode cX12_reckon 89 = .ok (.ldiv, 1) := by decide +kernel
theorem dX12_reckon_90 : decode cX12_reckon 90 = .ok (.lreturn, 1) := by decide +kernel
theorem dX12_reckon_91 : decode cX12_reckon 91 = .ok (.aload_n 0, 1) := by decide +kernel
theorem dX12_reckon_92 : decode cX12_reckon 92 = .ok (.lload 4, 2) := by decide +kernel
theorem dX12_reckon_94 : decode cX12_reckon 94 = .ok (.lconst 0, 1) := by decide +kernel
theorem dX12_reckon_95 : decode cX12_reckon 95 = .ok (.lcmp, 1) := by decide +kernel
theorem dX12_reckon_96 : decode cX12_reckon 96 = .ok (.ifCond .ne 7, 3) := by decide +kernel
theorem dX12_reckon_99 : decode cX12_reckon 99 = .ok (.iconst 1, 1) := by decide +kernel
theorem dX12_reckon_100 : decode cX12_reckon 100 = .ok (.goto 4, 3) := by decide +kernel
theorem dX12_reckon_103 : decode cX12_reckon 103 = .ok (.iconst 0, 1) := by decide +kernel
theorem dX12_reckon_104 : decode cX12_reckon 104 = .ok (.putfield 283, 3) := by decide +kernel
theorem dX12_reckon_107 : decode cX12_reckon 107 = .ok (.aload_n 0, 1) := by decide +kernel
theorem dX12_reckon_108 : decode cX12_reckon 108 = .ok (.getfield 283, 3) := by decide +kernel
theorem dX12_reckon_111 : decode cX12_reckon 111 = .ok (.ifCond .eq 7, 3) := by decide +kernel
theorem dX12_reckon_114 : decode cX12_reckon 114 = .ok (.lconst 0, 1) := by decide +kernel
theorem dX12_reckon_115 : decode cX12_reckon 115 = .ok (.goto 7, 3) := by decide +kernel
theorem dX12_reckon_118 : decode cX12_reckon 118 = .ok (.lload_n 2, 1) := by decide +kernel
theorem dX12_reckon_119 : decode cX12_reckon 119 = .ok (.lload 4, 2) := by decide +kernel
theorem dX12_reckon_121 : decode cX12_reckon 121 = .ok (.lrem, 1) := by decide +kernel
theorem dX12_reckon_122 : decode cX12_reckon 122 = .ok (.lreturn, 1) := by decide +kernel
theorem dX12_reckon_123 : decode cX12_reckon 123 = .ok (.lload_n 2, 1) := by decide +kernel
theorem dX12_reckon_124 : decode cX12_reckon 124 = .ok (.lload 4, 2) := by decide +kernel
theorem dX12_reckon_126 : decode cX12_reckon 126 = .ok (.lcmp, 1) := by decide +kernel
theorem dX12_reckon_127 : decode cX12_reckon 127 = .ok (.ifCond .ge 7, 3) := by decide +kernel
theorem dX12_reckon_130 : decode cX12_reckon 130 = .ok (.lconst 1, 1) := by decide +kernel
theorem dX12_reckon_131 : decode cX12_reckon 131 = .ok (.goto 4, 3) := by decide +kernel
theorem dX12_reckon_134 : decode cX12_reckon 134 = .ok (.lconst 0, 1) := by decide +kernel
theorem dX12_reckon_135 : decode cX12_reckon 135 = .ok (.lreturn, 1) := by decide +kernel
theorem dX12_reckon_136 : decode cX12_reckon 136 = .ok (.lload_n 2, 1) := by decide +kernel
theorem dX12_reckon_137 : decode cX12_reckon 137 = .ok (.lload 4, 2) := by decide +kernel
theorem dX12_reckon_139 : decode cX12_reckon 139 = .ok (.lcmp, 1) := by decide +kernel
theorem dX12_reckon_140 : decode cX12_reckon 140 = .ok (.ifCond .le 7, 3) := by decide +kernel
theorem dX12_reckon_143 : decode cX12_reckon 143 = .ok (.lconst 1, 1) := by decide +kernel
theorem dX12_reckon_144 : decode cX12_reckon 144 = .ok (.goto 4, 3) := by decide +kernel
theorem dX12_reckon_147 : decode cX12_reckon 147 = .ok (.lconst 0, 1) := by decide +kernel
theorem dX12_reckon_148 : decode cX12_reckon 148 = .ok (.lreturn, 1) := by decide +kernel
theorem dX12_reckon_149 : decode cX12_reckon 149 = .ok (.lload_n 2, 1) := by decide +kernel
theorem dX12_reckon_150 : decode cX12_reckon 150 = .ok (.lload 4, 2) := by decide +kernel
theorem dX12_reckon_152 : decode cX12_reckon 152 = .ok (.lcmp, 1) := by decide +kernel
theorem dX12_reckon_153 : decode cX12_reckon 153 = .ok (.ifCond .ne 7, 3) := by decide +kernel
theorem dX12_reckon_156 : decode cX12_reckon 156 = .ok (.lconst 1, 1) := by decide +kernel
theorem dX12_reckon_157 : decode cX12_reckon 157 = .ok (.goto 4, 3) := by decide +kernel
theorem dX12_reckon_160 : decode cX12_reckon 160 = .ok (.lconst 0, 1) := by decide +kernel
theorem dX12_reckon_161 : decode cX12_reckon 161 = .ok (.lreturn, 1) := by decide +kernel
theorem dX12_reckonAll_0 : decode cX12_reckonAll 0 = .ok (.aload_n 0, 1) := by decide +kernel
theorem dX12_reckonAll_1 : decode cX12_reckonAll 1 = .ok (.iconst 0, 1) := by decide +kernel
theorem dX12_reckonAll_2 : decode cX12_reckonAll 2 = .ok (.putfield 283, 3) := by decide +kernel
theorem dX12_reckonAll_5 : decode cX12_reckonAll 5 = .ok (.iconst 0, 1) := by decide +kernel
theorem dX12_reckonAll_6 : decode cX12_reckonAll 6 = .ok (.istore_n 3, 1) := by decide +kernel
theorem dX12_reckonAll_7 : decode cX12_reckonAll 7 = .ok (.iload_n 1, 1) := by decide +kernel
theorem dX12_reckonAll_8 : decode cX12_reckonAll 8 = .ok (.istore 4, 2) := by decide +kernel
theorem dX12_reckonAll_10 : decode cX12_reckonAll 10 = .ok (.iload 4, 2) := by decide +kernel
theorem dX12_reckonAll_12 : decode cX12_reckonAll 12 = .ok (.iload_n 2, 1) := by decide +kernel
theorem dX12_reckonAll_13 : decode cX12_reckonAll 13 = .ok (.if_icmp .ge 232, 3) := by decide +kernel
theorem dX12_reckonAll_16 : decode cX12_reckonAll 16 = .ok (.aload_n 0, 1) := by decide +kernel
theorem dX12_reckonAll_17 : decode cX12_reckonAll 17 = .ok (.getfield 283, 3) := by decide +kernel
theorem dX12_reckonAll_20 : decode cX12_reckonAll 20 = .ok (.ifCond .ne 225, 3) := by decide +kernel
theorem dX12_reckonAll_23 : decode cX12_reckonAll 23 = .ok (.aload_n 0, 1) := by decide +kernel
theorem dX12_reckonAll_24 : decode cX12_reckonAll 24 = .ok (.getfield 13, 3) := by decide +kernel
theorem dX12_reckonAll_27 : decode cX12_reckonAll 27 = .ok (.aload_n 0, 1) := by decide +kernel
theorem dX12_reckonAll_28 : decode cX12_reckonAll 28 = .ok (.getfield 286, 3) := by decide +kernel
theorem dX12_reckonAll_31 : decode cX12_reckonAll 31 = .ok (.bipush 98, 2) := by decide +kernel
theorem dX12_reckonAll_33 : decode cX12_reckonAll 33 = .ok (.iadd, 1) := by decide +kernel
theorem dX12_reckonAll_34 : decode cX12_reckonAll 34 = .ok (.iconst 2, 1) := by decide +kernel
theorem dX12_reckonAll_35 : decode cX12_reckonAll 35 = .ok (.iload 4, 2) := by decide +kernel
theorem dX12_reckonAll_37 : decode cX12_reckonAll 37 = .ok (.imul, 1) := by decide +kernel
theorem dX12_reckonAll_38 : decode cX12_reckonAll 38 = .ok (.iadd, 1) := by decide +kernel
theorem dX12_reckonAll_39 : decode cX12_reckonAll 39 = .ok (.iaload, 1) := by decide +kernel
theorem dX12_reckonAll_40 : decode cX12_reckonAll 40 = .ok (.istore 5, 2) := by decide +kernel
theorem dX12_reckonAll_42 : decode cX12_reckonAll 42 = .ok (.aload_n 0, 1) := by decide +kernel
theorem dX12_reckonAll_43 : decode cX12_reckonAll 43 = .ok (.getfield 13, 3) := by decide +kernel
theorem dX12_reckonAll_46 : decode cX12_reckonAll 46 = .ok (.aload_n 0, 1) := by decide +kernel
theorem dX12_reckonAll_47 : decode cX12_reckonAll 47 = .ok (.getfield 286, 3) := by decide +kernel
theorem dX12_reckonAll_50 : decode cX12_reckonAll 50 = .ok (.bipush 98, 2) := by decide +kernel
theorem dX12_reckonAll_52 : decode cX12_reckonAll 52 = .ok (.iadd, 1) := by decide +kernel
theorem dX12_reckonAll_53 : decode cX12_reckonAll 53 = .ok (.iconst 2, 1) := by decide +kernel
theorem dX12_reckonAll_54 : decode cX12_reckonAll 54 = .ok (.iload 4, 2) := by decide +kernel
theorem dX12_reckonAll_56 : decode cX12_reckonAll 56 = .ok (.imul, 1) := by decide +kernel
theorem dX12_reckonAll_57 : decode cX12_reckonAll 57 = .ok (.iadd, 1) := by decide +kernel
theorem dX12_reckonAll_58 : decode cX12_reckonAll 58 = .ok (.iconst 1, 1) := by decide +kernel
theorem dX12_reckonAll_59 : decode cX12_reckonAll 59 = .ok (.iadd, 1) := by decide +kernel
theorem dX12_reckonAll_60 : decode cX12_reckonAll 60 = .ok (.iaload, 1) := by decide +kernel
theorem dX12_reckonAll_61 : decode cX12_reckonAll 61 = .ok (.istore 6, 2) := by decide +kernel
theorem dX12_reckonAll_63 : decode cX12_reckonAll 63 = .ok (.iinc 4 1, 3) := by decide +kernel
theorem dX12_reckonAll_66 : decode cX12_reckonAll 66 = .ok (.iload 5, 2) := by decide +kernel
theorem dX12_reckonAll_68 : decode cX12_reckonAll 68 = .ok (.bipush 19, 2) := by decide +kernel
theorem dX12_reckonAll_70 : decode cX12_reckonAll 70 = .ok (.if_icmp .ge 33, 3) := by decide +kernel
theorem dX12_reckonAll_73 : decode cX12_reckonAll 73 = .ok (.aload_n 0, 1) := by decide +kernel
theorem dX12_reckonAll_74 : decode cX12_reckonAll 74 = .ok (.getfield 62, 3) := by decide +kernel
theorem dX12_reckonAll_77 : decode cX12_reckonAll 77 = .ok (.iload_n 3, 1) := by decide +kernel
theorem dX12_reckonAll_78 : decode cX12_reckonAll 78 = .ok (.iload 5, 2) := by decide +kernel
theorem dX12_reckonAll_80 : decode cX12_reckonAll 80 = .ok (.ifCond .ne 9, 3) := by decide +kernel
theorem dX12_reckonAll_83 : decode cX12_reckonAll 83 = .ok (.iload 6, 2) := by decide +kernel
theorem dX12_reckonAll_85 : decode cX12_reckonAll 85 = .ok (.i2l, 1) := by decide +kernel
theorem dX12_reckonAll_86 : decode cX12_reckonAll 86 = .ok (.goto 10, 3) := by decide +kernel
theorem dX12_reckonAll_89 : decode cX12_reckonAll 89 = .ok (.aload_n 0, 1) := by decide +kernel
theorem dX12_reckonAll_90 : decode cX12_reckonAll 90 = .ok (.getfield 59, 3) := by decide +kernel
theorem dX12_reckonAll_93 : decode cX12_reckonAll 93 = .ok (.iload 5, 2) := by decide +kernel
theorem dX12_reckonAll_95 : decode cX12_reckonAll 95 = .ok (.laload, 1) := by decide +kernel
theorem dX12_reckonAll_96 : decode cX12_reckonAll 96 = .ok (.lastore, 1) := by decide +kernel
theorem dX12_reckonAll_97 : decode cX12_reckonAll 97 = .ok (.iinc 3 1, 3) := by decide +kernel
theorem dX12_reckonAll_100 : decode cX12_reckonAll 100 = .ok (.goto 142, 3) := by decide +kernel
theorem dX12_reckonAll_103 : decode cX12_reckonAll 103 = .ok (.iload 5, 2) := by decide +kernel
theorem dX12_reckonAll_105 : decode cX12_reckonAll 105 = .ok (.bipush 27, 2) := by decide +kernel
theorem dX12_reckonAll_107 : decode cX12_reckonAll 107 = .ok (.if_icmp .ge 73, 3) := by decide +kernel
theorem dX12_reckonAll_110 : decode cX12_reckonAll 110 = .ok (.iinc 3 (-1), 3) := by decide +kernel
theorem dX12_reckonAll_113 : decode cX12_reckonAll 113 = .ok (.aload_n 0, 1) := by decide +kernel
theorem dX12_reckonAll_114 : decode cX12_reckonAll 114 = .ok (.getfield 62, 3) := by decide +kernel
theorem dX12_reckonAll_117 : decode cX12_reckonAll 117 = .ok (.iload_n 3, 1) := by decide +kernel
theorem dX12_reckonAll_118 : decode cX12_reckonAll 118 = .ok (.iconst 1, 1) := by decide +kernel
theorem dX12_reckonAll_119 : decode cX12_reckonAll 119 = .ok (.isub, 1) := by decide +kernel
theorem dX12_reckonAll_120 : decode cX12_reckonAll 120 = .ok (.aload_n 0, 1) := by decide +kernel
theorem dX12_reckonAll_121 : decode cX12_reckonAll 121 = .ok (.iload 5, 2) := by decide +kernel
theorem dX12_reckonAll_123 : decode cX12_reckonAll 123 = .ok (.aload_n 0, 1) := by decide +kernel
theorem dX12_reckonAll_124 : decode cX12_reckonAll 124 = .ok (.getfield 62, 3) := by decide +kernel
theorem dX12_reckonAll_127 : decode cX12_reckonAll 127 = .ok (.iload_n 3, 1) := by decide +kernel
theorem dX12_reckonAll_128 : decode cX12_reckonAll 128 = .ok (.iconst 1, 1) := by decide +kernel
theorem dX12_reckonAll_129 : decode cX12_reckonAll 129 = .ok (.isub, 1) := by decide +kernel
theorem dX12_reckonAll_130 : decode cX12_reckonAll 130 = .ok (.laload, 1) := by decide +kernel
theorem dX12_reckonAll_131 : decode cX12_reckonAll 131 = .ok (.aload_n 0, 1) := by decide +kernel
theorem dX12_reckonAll_132 : decode cX12_reckonAll 132 = .ok (.getfield 62, 3) := by decide +kernel
theorem dX12_reckonAll_135 : decode cX12_reckonAll 135 = .ok (.iload_n 3, 1) := by decide +kernel
theorem dX12_reckonAll_136 : decode cX12_reckonAll 136 = .ok (.laload, 1) := by decide +kernel
theorem dX12_reckonAll_137 : decode cX12_reckonAll 137 = .ok (.invokevirtual 289, 3) := by decide +kernel
theorem dX12_reckonAll_140 : decode cX12_reckonAll 140 = .ok (.lastore, 1) := by decide +kernel
theorem dX12_reckonAll_141 : decode cX12_reckonAll 141 = .ok (.aload_n 0, 1) := by decide +kernel
theorem dX12_reckonAll_142 : decode cX12_reckonAll 142 = .ok (.aload_n 0, 1) := by decide +kernel
theorem dX12_reckonAll_143 : decode cX12_reckonAll 143 = .ok (.getfield 283, 3) := by decide +kernel
theorem dX12_reckonAll_146 : decode cX12_reckonAll 146 = .ok (.ifCond .ne 23, 3) := by decide +kernel
theorem dX12_reckonAll_149 : decode cX12_reckonAll 149 = .ok (.aload_n 0, 1) := by decide +kernel
theorem dX12_reckonAll_150 : decode cX12_reckonAll 150 = .ok (.getfield 62, 3) := by decide +kernel
theorem dX12_reckonAll_153 : decode cX12_reckonAll 153 = .ok (.iload_n 3, 1) := by decide +kernel
theorem dX12_reckonAll_154 : decode cX12_reckonAll 154 = .ok (.iconst 1, 1) := by decide +kernel
theorem dX12_reckonAll_155 : decode cX12_reckonAll 155 = .ok (.isub, 1) := by decide +kernel
theorem dX12_reckonAll_156 : decode cX12_reckonAll 156 = .ok (.laload, 1) := by decide +kernel
theorem dX12_reckonAll_157 : decode cX12_reckonAll 157 = .ok (.ldc2_w 293, 3) := by decide +kernel
theorem dX12_reckonAll_160 : decode cX12_reckonAll 160 = .ok (.ldc2_w 295, 3) := by decide +kernel
theorem dX12_reckonAll_163 : decode cX12_reckonAll 163 = .ok (.invokestatic 98, 3) := by decide +kernel
theorem dX12_reckonAll_166 : decode cX12_reckonAll 166 = .ok (.ifCond .ne 7, 3) := by decide +kernel
theorem dX12_reckonAll_169 : decode cX12_reckonAll 169 = .ok (.iconst 1, 1) := by decide +kernel
theorem dX12_reckonAll_170 : decode cX12_reckonAll 170 = .ok (.goto 4, 3) := by decide +kernel
theorem dX12_reckonAll_173 : decode cX12_reckonAll 173 = .ok (.iconst 0, 1) := by decide +kernel
theorem dX12_reckonAll_174 : decode cX12_reckonAll 174 = .ok (.putfield 283, 3) := by decide +kernel
theorem dX12_reckonAll_177 : decode cX12_reckonAll 177 = .ok (.goto 65, 3) := by decide +kernel
theorem dX12_reckonAll_180 : decode cX12_reckonAll 180 = .ok (.iload 5, 2) := by decide +kernel
theorem dX12_reckonAll_182 : decode cX12_reckonAll 182 = .ok (.bipush 27, 2) := by decide +kernel
theorem dX12_reckonAll_184 : decode cX12_reckonAll 184 = .ok (.if_icmp .ne 24, 3) := by decide +kernel
theorem dX12_reckonAll_187 : decode cX12_reckonAll 187 = .ok (.aload_n 0, 1) := by decide +kernel
theorem dX12_reckonAll_188 : decode cX12_reckonAll 188 = .ok (.getfield 62, 3) := by decide +kernel
theorem dX12_reckonAll_191 : decode cX12_reckonAll 191 = .ok (.iload_n 3, 1) := by decide +kernel
theorem dX12_reckonAll_192 : decode cX12_reckonAll 192 = .ok (.iconst 1, 1) := by decide +kernel
theorem dX12_reckonAll_193 : decode cX12_reckonAll 193 = .ok (.isub, 1) := by decide +kernel
theorem dX12_reckonAll_194 : decode cX12_reckonAll 194 = .ok (.lconst 1, 1) := by decide +kernel
theorem dX12_reckonAll_195 : decode cX12_reckonAll 195 = .ok (.aload_n 0, 1) := by decide +kernel
theorem dX12_reckonAll_196 : decode cX12_reckonAll 196 = .ok (.getfield 62, 3) := by decide +kernel
theorem dX12_reckonAll_199 : decode cX12_reckonAll 199 = .ok (.iload_n 3, 1) := by decide +kernel
theorem dX12_reckonAll_200 : decode cX12_reckonAll 200 = .ok (.iconst 1, 1) := by decide +kernel
theorem dX12_reckonAll_201 : decode cX12_reckonAll 201 = .ok (.isub, 1) := by decide +kernel
theorem dX12_reckonAll_202 : decode cX12_reckonAll 202 = .ok (.laload, 1) := by decide +kernel
theorem dX12_reckonAll_203 : decode cX12_reckonAll 203 = .ok (.lsub, 1) := by decide +kernel
theorem dX12_reckonAll_204 : decode cX12_reckonAll 204 = .ok (.lastore, 1) := by decide +kernel
theorem dX12_reckonAll_205 : decode cX12_reckonAll 205 = .ok (.goto 37, 3) := by decide +kernel
theorem dX12_reckonAll_208 : decode cX12_reckonAll 208 = .ok (.aload_n 0, 1) := by decide +kernel
theorem dX12_reckonAll_209 : decode cX12_reckonAll 209 = .ok (.getfield 62, 3) := by decide +kernel
theorem dX12_reckonAll_212 : decode cX12_reckonAll 212 = .ok (.iload_n 3, 1) := by decide +kernel
theorem dX12_reckonAll_213 : decode cX12_reckonAll 213 = .ok (.iconst 1, 1) := by decide +kernel
theorem dX12_reckonAll_214 : decode cX12_reckonAll 214 = .ok (.isub, 1) := by decide +kernel
theorem dX12_reckonAll_215 : decode cX12_reckonAll 215 = .ok (.laload, 1) := by decide +kernel
theorem dX12_reckonAll_216 : decode cX12_reckonAll 216 = .ok (.iload 5, 2) := by decide +kernel
theorem dX12_reckonAll_218 : decode cX12_reckonAll 218 = .ok (.bipush 28, 2) := by decide +kernel
theorem dX12_reckonAll_220 : decode cX12_reckonAll 220 = .ok (.if_icmp .ne 7, 3) := by decide +kernel
theorem dX12_reckonAll_223 : decode cX12_reckonAll 223 = .ok (.lconst 0, 1) := by decide +kernel
theorem dX12_reckonAll_224 : decode cX12_reckonAll 224 = .ok (.goto 4, 3) := by decide +kernel
theorem dX12_reckonAll_227 : decode cX12_reckonAll 227 = .ok (.lconst 1, 1) := by decide +kernel
theorem dX12_reckonAll_228 : decode cX12_reckonAll 228 = .ok (.lcmp, 1) := by decide +kernel
theorem dX12_reckonAll_229 : decode cX12_reckonAll 229 = .ok (.ifCond .ne 10, 3) := by decide +kernel
theorem dX12_reckonAll_232 : decode cX12_reckonAll 232 = .ok (.iload 6, 2) := by decide +kernel
theorem dX12_reckonAll_234 : decode cX12_reckonAll 234 = .ok (.istore 4, 2) := by decide +kernel
theorem dX12_reckonAll_236 : decode cX12_reckonAll 236 = .ok (.goto 6, 3) := by decide +kernel
theorem dX12_reckonAll_239 : decode cX12_reckonAll 239 = .ok (.iinc 3 (-1), 3) := by decide +kernel
theorem dX12_reckonAll_242 : decode cX12_reckonAll 242 = .ok (.goto (-232), 3) := by decide +kernel
theorem dX12_reckonAll_245 : decode cX12_reckonAll 245 = .ok (.aload_n 0, 1) := by decide +kernel
theorem dX12_reckonAll_246 : decode cX12_reckonAll 246 = .ok (.iload_n 3, 1) := by decide +kernel
theorem dX12_reckonAll_247 : decode cX12_reckonAll 247 = .ok (.ifCond .le 12, 3) := by decide +kernel
theorem dX12_reckonAll_250 : decode cX12_reckonAll 250 = .ok (.aload_n 0, 1) := by decide +kernel
theorem dX12_reckonAll_251 : decode cX12_reckonAll 251 = .ok (.getfield 62, 3) := by decide +kernel
theorem dX12_reckonAll_254 : decode cX12_reckonAll 254 = .ok (.iconst 0, 1) := by decide +kernel
theorem dX12_reckonAll_255 : decode cX12_reckonAll 255 = .ok (.laload, 1) := by decide +kernel
theorem dX12_reckonAll_256 : decode cX12_reckonAll 256 = .ok (.goto 4, 3) := by decide +kernel
theorem dX12_reckonAll_259 : decode cX12_reckonAll 259 = .ok (.lconst 0, 1) := by decide +kernel
theorem dX12_reckonAll_260 : decode cX12_reckonAll 260 = .ok (.putfield 297, 3) := by decide +kernel
theorem dX12_reckonAll_263 : decode cX12_reckonAll 263 = .ok (.return_, 1) := by decide +kernel
theorem dX12_isSo_0 : decode cX12_isSo 0 = .ok (.aload_n 0, 1) := by decide +kernel
theorem dX12_isSo_1 : decode cX12_isSo 1 = .ok (.getfield 13, 3) := by decide +kernel
theorem dX12_isSo_4 : decode cX12_isSo 4 = .ok (.iload_n 1, 1) := by decide +kernel
theorem dX12_isSo_5 : decode cX12_isSo 5 = .ok (.iconst 5, 1) := by decide +kernel
theorem dX12_isSo_6 : decode cX12_isSo 6 = .ok (.iadd, 1) := by decide +kernel
theorem dX12_isSo_7 : decode cX12_isSo 7 = .ok (.iaload, 1) := by decide +kernel
theorem dX12_isSo_8 : decode cX12_isSo 8 = .ok (.aload_n 0, 1) := by decide +kernel
theorem dX12_isSo_9 : decode cX12_isSo 9 = .ok (.getfield 13, 3) := by decide +kernel
theorem dX12_isSo_12 : decode cX12_isSo 12 = .ok (.iload_n 1, 1) := by decide +kernel
theorem dX12_isSo_13 : decode cX12_isSo 13 = .ok (.bipush 6, 2) := by decide +kernel
theorem dX12_isSo_15 : decode cX12_isSo 15 = .ok (.iadd, 1) := by decide +kernel
theorem dX12_isSo_16 : decode cX12_isSo 16 = .ok (.iaload, 1) := by decide +kernel
theorem dX12_isSo_17 : decode cX12_isSo 17 = .ok (.if_icmp .ge 42, 3) := by decide +kernel
theorem dX12_isSo_20 : decode cX12_isSo 20 = .ok (.aload_n 0, 1) := by decide +kernel
theorem dX12_isSo_21 : decode cX12_isSo 21 = .ok (.aload_n 0, 1) := by decide +kernel
theorem dX12_isSo_22 : decode cX12_isSo 22 = .ok (.getfield 13, 3) := by decide +kernel
theorem dX12_isSo_25 : decode cX12_isSo 25 = .ok (.iload_n 1, 1) := by decide +kernel
theorem dX12_isSo_26 : decode cX12_isSo 26 = .ok (.iconst 5, 1) := by decide +kernel
theorem dX12_isSo_27 : decode cX12_isSo 27 = .ok (.iadd, 1) := by decide +kernel
theorem dX12_isSo_28 : decode cX12_isSo 28 = .ok (.iaload, 1) := by decide +kernel
theorem dX12_isSo_29 : decode cX12_isSo 29 = .ok (.aload_n 0, 1) := by decide +kernel
theorem dX12_isSo_30 : decode cX12_isSo 30 = .ok (.getfield 13, 3) := by decide +kernel
theorem dX12_isSo_33 : decode cX12_isSo 33 = .ok (.iload_n 1, 1) := by decide +kernel
theorem dX12_isSo_34 : decode cX12_isSo 34 = .ok (.bipush 6, 2) := by decide +kernel
theorem dX12_isSo_36 : decode cX12_isSo 36 = .ok (.iadd, 1) := by decide +kernel
theorem dX12_isSo_37 : decode cX12_isSo 37 = .ok (.iaload, 1) := by decide +kernel
theorem dX12_isSo_38 : decode cX12_isSo 38 = .ok (.invokevirtual 300, 3) := by decide +kernel
theorem dX12_isSo_41 : decode cX12_isSo 41 = .ok (.aload_n 0, 1) := by decide +kernel
theorem dX12_isSo_42 : decode cX12_isSo 42 = .ok (.getfield 283, 3) := by decide +kernel
theorem dX12_isSo_45 : decode cX12_isSo 45 = .ok (.ifCond .ne 12, 3) := by decide +kernel
theorem dX12_isSo_48 : decode cX12_isSo 48 = .ok (.aload_n 0, 1) := by decide +kernel
theorem dX12_isSo_49 : decode cX12_isSo 49 = .ok (.getfield 297, 3) := by decide +kernel
theorem dX12_isSo_52 : decode cX12_isSo 52 = .ok (.lconst 0, 1) := by decide +kernel
theorem dX12_isSo_53 : decode cX12_isSo 53 = .ok (.lcmp, 1) := by decide +kernel
theorem dX12_isSo_54 : decode cX12_isSo 54 = .ok (.ifCond .ne 5, 3) := by decide +kernel
theorem dX12_isSo_57 : decode cX12_isSo 57 = .ok (.iconst 0, 1) := by decide +kernel
theorem dX12_isSo_58 : decode cX12_isSo 58 = .ok (.ireturn, 1) := by decide +kernel
theorem dX12_isSo_59 : decode cX12_isSo 59 = .ok (.aload_n 0, 1) := by decide +kernel
theorem dX12_isSo_60 : decode cX12_isSo 60 = .ok (.aload_n 0, 1) := by decide +kernel
theorem dX12_isSo_61 : decode cX12_isSo 61 = .ok (.getfield 13, 3) := by decide +kernel
theorem dX12_isSo_64 : decode cX12_isSo 64 = .ok (.iload_n 1, 1) := by decide +kernel
theorem dX12_isSo_65 : decode cX12_isSo 65 = .ok (.iconst 3, 1) := by decide +kernel
theorem dX12_isSo_66 : decode cX12_isSo 66 = .ok (.iadd, 1) := by decide +kernel
theorem dX12_isSo_67 : decode cX12_isSo 67 = .ok (.iaload, 1) := by decide +kernel
theorem dX12_isSo_68 : decode cX12_isSo 68 = .ok (.aload_n 0, 1) := by decide +kernel
theorem dX12_isSo_69 : decode cX12_isSo 69 = .ok (.getfield 13, 3) := by decide +kernel
theorem dX12_isSo_72 : decode cX12_isSo 72 = .ok (.iload_n 1, 1) := by decide +kernel
theorem dX12_isSo_73 : decode cX12_isSo 73 = .ok (.iconst 4, 1) := by decide +kernel
theorem dX12_isSo_74 : decode cX12_isSo 74 = .ok (.iadd, 1) := by decide +kernel
theorem dX12_isSo_75 : decode cX12_isSo 75 = .ok (.iaload, 1) := by decide +kernel
theorem dX12_isSo_76 : decode cX12_isSo 76 = .ok (.invokevirtual 300, 3) := by decide +kernel
theorem dX12_isSo_79 : decode cX12_isSo 79 = .ok (.aload_n 0, 1) := by decide +kernel
theorem dX12_isSo_80 : decode cX12_isSo 80 = .ok (.aload_n 0, 1) := by decide +kernel
theorem dX12_isSo_81 : decode cX12_isSo 81 = .ok (.getfield 297, 3) := by decide +kernel
theorem dX12_isSo_84 : decode cX12_isSo 84 = .ok (.putfield 303, 3) := by decide +kernel
theorem dX12_isSo_87 : decode cX12_isSo 87 = .ok (.aload_n 0, 1) := by decide +kernel
theorem dX12_isSo_88 : decode cX12_isSo 88 = .ok (.getfield 283, 3) := by decide +kernel
theorem dX12_isSo_91 : decode cX12_isSo 91 = .ok (.ifCond .ne 7, 3) := by decide +kernel
theorem dX12_isSo_94 : decode cX12_isSo 94 = .ok (.iconst 1, 1) := by decide +kernel
theorem dX12_isSo_95 : decode cX12_isSo 95 = .ok (.goto 4, 3) := by decide +kernel
theorem dX12_isSo_98 : decode cX12_isSo 98 = .ok (.iconst 0, 1) := by decide +kernel
theorem dX12_isSo_99 : decode cX12_isSo 99 = .ok (.ireturn, 1) := by decide +kernel
theorem dX12_shouldOf_0 : decode cX12_shouldOf 0 = .ok (.aload_n 0, 1) := by decide +kernel
theorem dX12_shouldOf_1 : decode cX12_shouldOf 1 = .ok (.getfield 13, 3) := by decide +kernel
theorem dX12_shouldOf_4 : decode cX12_shouldOf 4 = .ok (.iconst 3, 1) := by decide +kernel
theorem dX12_shouldOf_5 : decode cX12_shouldOf 5 = .ok (.iaload, 1) := by decide +kernel
theorem dX12_shouldOf_6 : decode cX12_shouldOf 6 = .ok (.iconst (-1), 1) := by decide +kernel
theorem dX12_shouldOf_7 : decode cX12_shouldOf 7 = .ok (.if_icmp .ne 7, 3) := by decide +kernel
theorem dX12_shouldOf_10 : decode cX12_shouldOf 10 = .ok (.ldc_w 306, 3) := by decide +kernel
theorem dX12_shouldOf_13 : decode cX12_shouldOf 13 = .ok (.ireturn, 1) := by decide +kernel
theorem dX12_shouldOf_14 : decode cX12_shouldOf 14 = .ok (.aload_n 0, 1) := by decide +kernel
theorem dX12_shouldOf_15 : decode cX12_shouldOf 15 = .ok (.sipush 150, 3) := by decide +kernel
theorem dX12_shouldOf_18 : decode cX12_shouldOf 18 = .ok (.sipush 900, 3) := by decide +kernel
theorem dX12_shouldOf_21 : decode cX12_shouldOf 21 = .ok (.aload_n 0, 1) := by decide +kernel
theorem dX12_shouldOf_22 : decode cX12_shouldOf 22 = .ok (.getfield 13, 3) := by decide +kernel
theorem dX12_shouldOf_25 : decode cX12_shouldOf 25 = .ok (.iconst 3, 1) := by decide +kernel
theorem dX12_shouldOf_26 : decode cX12_shouldOf 26 = .ok (.iaload, 1) := by decide +kernel
theorem dX12_shouldOf_27 : decode cX12_shouldOf 27 = .ok (.imul, 1) := by decide +kernel
theorem dX12_shouldOf_28 : decode cX12_shouldOf 28 = .ok (.iadd, 1) := by decide +kernel
theorem dX12_shouldOf_29 : decode cX12_shouldOf 29 = .ok (.putfield 286, 3) := by decide +kernel
theorem dX12_shouldOf_32 : decode cX12_shouldOf 32 = .ok (.aload_n 0, 1) := by decide +kernel
theorem dX12_shouldOf_33 : decode cX12_shouldOf 33 = .ok (.getfield 59, 3) := by decide +kernel
theorem dX12_shouldOf_36 : decode cX12_shouldOf 36 = .ok (.iconst 1, 1) := by decide +kernel
theorem dX12_shouldOf_37 : decode cX12_shouldOf 37 = .ok (.iload_n 2, 1) := by decide +kernel
theorem dX12_shouldOf_38 : decode cX12_shouldOf 38 = .ok (.i2l, 1) := by decide +kernel
theorem dX12_shouldOf_39 : decode cX12_shouldOf 39 = .ok (.lastore, 1) := by decide +kernel
theorem dX12_shouldOf_40 : decode cX12_shouldOf 40 = .ok (.aload_n 0, 1) := by decide +kernel
theorem dX12_shouldOf_41 : decode cX12_shouldOf 41 = .ok (.getfield 59, 3) := by decide +kernel
theorem dX12_shouldOf_44 : decode cX12_shouldOf 44 = .ok (.iconst 2, 1) := by decide +kernel
theorem dX12_shouldOf_45 : decode cX12_shouldOf 45 = .ok (.iload_n 1, 1) := by decide +kernel
theorem dX12_shouldOf_46 : decode cX12_shouldOf 46 = .ok (.i2l, 1) := by decide +kernel
theorem dX12_shouldOf_47 : decode cX12_shouldOf 47 = .ok (.lastore, 1) := by decide +kernel
theorem dX12_shouldOf_48 : decode cX12_shouldOf 48 = .ok (.aload_n 0, 1) := by decide +kernel
theorem dX12_shouldOf_49 : decode cX12_shouldOf 49 = .ok (.getfield 59, 3) := by decide +kernel
theorem dX12_shouldOf_52 : decode cX12_shouldOf 52 = .ok (.iconst 3, 1) := by decide +kernel
theorem dX12_shouldOf_53 : decode cX12_shouldOf 53 = .ok (.aload_n 0, 1) := by decide +kernel
theorem dX12_shouldOf_54 : decode cX12_shouldOf 54 = .ok (.iload_n 1, 1) := by decide +kernel
theorem dX12_shouldOf_55 : decode cX12_shouldOf 55 = .ok (.iconst 0, 1) := by decide +kernel
theorem dX12_shouldOf_56 : decode cX12_shouldOf 56 = .ok (.invokevirtual 115, 3) := by decide +kernel
theorem dX12_shouldOf_59 : decode cX12_shouldOf 59 = .ok (.i2l, 1) := by decide +kernel
theorem dX12_shouldOf_60 : decode cX12_shouldOf 60 = .ok (.lastore, 1) := by decide +kernel
theorem dX12_shouldOf_61 : decode cX12_shouldOf 61 = .ok (.aload_n 0, 1) := by decide +kernel
theorem dX12_shouldOf_62 : decode cX12_shouldOf 62 = .ok (.getfield 59, 3) := by decide +kernel
theorem dX12_shouldOf_65 : decode cX12_shouldOf 65 = .ok (.iconst 4, 1) := by decide +kernel
theorem dX12_shouldOf_66 : decode cX12_shouldOf 66 = .ok (.aload_n 0, 1) := by decide +kernel
theorem dX12_shouldOf_67 : decode cX12_shouldOf 67 = .ok (.iload_n 1, 1) := by decide +kernel
theorem dX12_shouldOf_68 : decode cX12_shouldOf 68 = .ok (.aload_n 0, 1) := by decide +kernel
theorem dX12_shouldOf_69 : decode cX12_shouldOf 69 = .ok (.iload_n 1, 1) := by decide +kernel
theorem dX12_shouldOf_70 : decode cX12_shouldOf 70 = .ok (.iload_n 2, 1) := by decide +kernel
theorem dX12_shouldOf_71 : decode cX12_shouldOf 71 = .ok (.invokevirtual 307, 3) := by decide +kernel
theorem dX12_shouldOf_74 : decode cX12_shouldOf 74 = .ok (.invokevirtual 311, 3) := by decide +kernel
theorem dX12_shouldOf_77 : decode cX12_shouldOf 77 = .ok (.ldc2_w 105, 3) := by decide +kernel
theorem dX12_shouldOf_80 : decode cX12_shouldOf 80 = .ok (.lrem, 1) := by decide +kernel
theorem dX12_shouldOf_81 : decode cX12_shouldOf 81 = .ok (.lastore, 1) := by decide +kernel
theorem dX12_shouldOf_82 : decode cX12_shouldOf 82 = .ok (.aload_n 0, 1) := by decide +kernel
theorem dX12_shouldOf_83 : decode cX12_shouldOf 83 = .ok (.getfield 59, 3) := by decide +kernel
theorem dX12_shouldOf_86 : decode cX12_shouldOf 86 = .ok (.iconst 5, 1) := by decide +kernel
theorem dX12_shouldOf_87 : decode cX12_shouldOf 87 = .ok (.aload_n 0, 1) := by decide +kernel
theorem dX12_shouldOf_88 : decode cX12_shouldOf 88 = .ok (.iload_n 1, 1) := by decide +kernel
theorem dX12_shouldOf_89 : decode cX12_shouldOf 89 = .ok (.iconst 1, 1) := by decide +kernel
theorem dX12_shouldOf_90 : decode cX12_shouldOf 90 = .ok (.invokevirtual 115, 3) := by decide +kernel
theorem dX12_shouldOf_93 : decode cX12_shouldOf 93 = .ok (.i2l, 1) := by decide +kernel
theorem dX12_shouldOf_94 : decode cX12_shouldOf 94 = .ok (.lastore, 1) := by decide +kernel
theorem dX12_shouldOf_95 : decode cX12_shouldOf 95 = .ok (.ldc_w 306, 3) := by decide +kernel
theorem dX12_shouldOf_98 : decode cX12_shouldOf 98 = .ok (.istore_n 3, 1) := by decide +kernel
theorem dX12_shouldOf_99 : decode cX12_shouldOf 99 = .ok (.iconst 0, 1) := by decide +kernel
theorem dX12_shouldOf_100 : decode cX12_shouldOf 100 = .ok (.istore 4, 2) := by decide +kernel
theorem dX12_shouldOf_102 : decode cX12_shouldOf 102 = .ok (.iload 4, 2) := by decide +kernel
theorem dX12_shouldOf_104 : decode cX12_shouldOf 104 = .ok (.aload_n 0, 1) := by decide +kernel
theorem dX12_shouldOf_105 : decode cX12_shouldOf 105 = .ok (.getfield 13, 3) := by decide +kernel
theorem dX12_shouldOf_108 : decode cX12_shouldOf 108 = .ok (.aload_n 0, 1) := by decide +kernel
theorem dX12_shouldOf_109 : decode cX12_shouldOf 109 = .ok (.getfield 286, 3) := by decide +kernel
theorem dX12_shouldOf_112 : decode cX12_shouldOf 112 = .ok (.iconst 1, 1) := by decide +kernel
theorem dX12_shouldOf_113 : decode cX12_shouldOf 113 = .ok (.iadd, 1) := by decide +kernel
theorem dX12_shouldOf_114 : decode cX12_shouldOf 114 = .ok (.iaload, 1) := by decide +kernel
theorem dX12_shouldOf_115 : decode cX12_shouldOf 115 = .ok (.if_icmp .ge 38, 3) := by decide +kernel
theorem dX12_shouldOf_118 : decode cX12_shouldOf 118 = .ok (.aload_n 0, 1) := by decide +kernel
theorem dX12_shouldOf_119 : decode cX12_shouldOf 119 = .ok (.getfield 286, 3) := by decide +kernel
theorem dX12_shouldOf_122 : decode cX12_shouldOf 122 = .ok (.iconst 2, 1) := by decide +kernel
theorem dX12_shouldOf_123 : decode cX12_shouldOf 123 = .ok (.iadd, 1) := by decide +kernel
theorem dX12_shouldOf_124 : decode cX12_shouldOf 124 = .ok (.bipush 8, 2) := by decide +kernel
theorem dX12_shouldOf_126 : decode cX12_shouldOf 126 = .ok (.iload 4, 2) := by decide +kernel
theorem dX12_shouldOf_128 : decode cX12_shouldOf 128 = .ok (.imul, 1) := by decide +kernel
theorem dX12_shouldOf_129 : decode cX12_shouldOf 129 = .ok (.iadd, 1) := by decide +kernel
theorem dX12_shouldOf_130 : decode cX12_shouldOf 130 = .ok (.istore 5, 2) := by decide +kernel
theorem dX12_shouldOf_132 : decode cX12_shouldOf 132 = .ok (.aload_n 0, 1) := by decide +kernel
theorem dX12_shouldOf_133 : decode cX12_shouldOf 133 = .ok (.iload 5, 2) := by decide +kernel
theorem dX12_shouldOf_135 : decode cX12_shouldOf 135 = .ok (.invokevirtual 315, 3) := by decide +kernel
theorem dX12_shouldOf_138 : decode cX12_shouldOf 138 = .ok (.ifCond .eq 9, 3) := by decide +kernel
theorem dX12_shouldOf_141 : decode cX12_shouldOf 141 = .ok (.aload_n 0, 1) := by decide +kernel
theorem dX12_shouldOf_142 : decode cX12_shouldOf 142 = .ok (.getfield 303, 3) := by decide +kernel
theorem dX12_shouldOf_145 : decode cX12_shouldOf 145 = .ok (.l2i, 1) := by decide +kernel
theorem dX12_shouldOf_146 : decode cX12_shouldOf 146 = .ok (.istore_n 3, 1) := by decide +kernel
theorem dX12_shouldOf_147 : decode cX12_shouldOf 147 = .ok (.iinc 4 1, 3) := by decide +kernel
theorem dX12_shouldOf_150 : decode cX12_shouldOf 150 = .ok (.goto (-48), 3) := by decide +kernel
theorem dX12_shouldOf_153 : decode cX12_shouldOf 153 = .ok (.iload_n 3, 1) := by decide +kernel
theorem dX12_shouldOf_154 : decode cX12_shouldOf 154 = .ok (.ireturn, 1) := by decide +kernel
theorem dX12_should_0 : decode cX12_should 0 = .ok (.aload_n 0, 1) := by decide +kernel
theorem dX12_should_1 : decode cX12_should 1 = .ok (.iconst 0, 1) := by decide +kernel
theorem dX12_should_2 : decode cX12_should 2 = .ok (.putfield 88, 3) := by decide +kernel
theorem dX12_should_5 : decode cX12_should 5 = .ok (.aload_n 0, 1) := by decide +kernel
theorem dX12_should_6 : decode cX12_should 6 = .ok (.iload_n 1, 1) := by decide +kernel
theorem dX12_should_7 : decode cX12_should 7 = .ok (.invokevirtual 111, 3) := by decide +kernel
theorem dX12_should_10 : decode cX12_should 10 = .ok (.ifCond .eq 19, 3) := by decide +kernel
theorem dX12_should_13 : decode cX12_should 13 = .ok (.iload_n 2, 1) := by decide +kernel
theorem dX12_should_14 : decode cX12_should 14 = .ok (.invokestatic 318, 3) := by decide +kernel
theorem dX12_should_17 : decode cX12_should 17 = .ok (.ifCond .eq 12, 3) := by decide +kernel
theorem dX12_should_20 : decode cX12_should 20 = .ok (.aload_n 0, 1) := by decide +kernel
theorem dX12_should_21 : decode cX12_should 21 = .ok (.iload_n 1, 1) := by decide +kernel
theorem dX12_should_22 : decode cX12_should 22 = .ok (.iload_n 2, 1) := by decide +kernel
theorem dX12_should_23 : decode cX12_should 23 = .ok (.invokevirtual 321, 3) := by decide +kernel
theorem dX12_should_26 : decode cX12_should 26 = .ok (.goto 6, 3) := by decide +kernel
theorem dX12_should_29 : decode cX12_should 29 = .ok (.ldc_w 306, 3) := by decide +kernel
theorem dX12_should_32 : decode cX12_should 32 = .ok (.ireturn, 1) := by decide +kernel
theorem dX12_upper_0 : decode cX12_upper 0 = .ok (.lconst 1, 1) := by decide +kernel
theorem dX12_upper_1 : decode cX12_upper 1 = .ok (.lstore_n 3, 1) := by decide +kernel
theorem dX12_upper_2 : decode cX12_upper 2 = .ok (.iconst 0, 1) := by decide +kernel
theorem dX12_upper_3 : decode cX12_upper 3 = .ok (.istore 5, 2) := by decide +kernel
theorem dX12_upper_5 : decode cX12_upper 5 = .ok (.iload 5, 2) := by decide +kernel
theorem dX12_upper_7 : decode cX12_upper 7 = .ok (.iload_n 2, 1) := by decide +kernel
theorem dX12_upper_8 : decode cX12_upper 8 = .ok (.if_icmp .ge 24, 3) := by decide +kernel
theorem dX12_upper_11 : decode cX12_upper 11 = .ok (.lload_n 3, 1) := by decide +kernel
theorem dX12_upper_12 : decode cX12_upper 12 = .ok (.aload_n 0, 1) := by decide +kernel
theorem dX12_upper_13 : decode cX12_upper 13 = .ok (.iload_n 1, 1) := by decide +kernel
theorem dX12_upper_14 : decode cX12_upper 14 = .ok (.iconst 4, 1) := by decide +kernel
theorem dX12_upper_15 : decode cX12_upper 15 = .ok (.iconst 2, 1) := by decide +kernel
theorem dX12_upper_16 : decode cX12_upper 16 = .ok (.iload 5, 2) := by decide +kernel
theorem dX12_upper_18 : decode cX12_upper 18 = .ok (.imul, 1) := by decide +kernel
theorem dX12_upper_19 : decode cX12_upper 19 = .ok (.iadd, 1) := by decide +kernel
theorem dX12_upper_20 : decode cX12_upper 20 = .ok (.invokevirtual 115, 3) := by decide +kernel
theorem dX12_upper_23 : decode cX12_upper 23 = .ok (.i2l, 1) := by decide +kernel
theorem dX12_upper_24 : decode cX12_upper 24 = .ok (.lmul, 1) := by decide +kernel
theorem dX12_upper_25 : decode cX12_upper 25 = .ok (.lstore_n 3, 1) := by decide +kernel
theorem dX12_upper_26 : decode cX12_upper 26 = .ok (.iinc 5 1, 3) := by decide +kernel
theorem dX12_upper_29 : decode cX12_upper 29 = .ok (.goto (-24), 3) := by decide +kernel
theorem dX12_upper_32 : decode cX12_upper 32 = .ok (.lload_n 3, 1) := by decide +kernel
theorem dX12_upper_33 : decode cX12_upper 33 = .ok (.lreturn, 1) := by decide +kernel
theorem dX12_lower_0 : decode cX12_lower 0 = .ok (.lconst 1, 1) := by decide +kernel
theorem dX12_lower_1 : decode cX12_lower 1 = .ok (.lstore_n 3, 1) := by decide +kernel
theorem dX12_lower_2 : decode cX12_lower 2 = .ok (.iconst 0, 1) := by decide +kernel
theorem dX12_lower_3 : decode cX12_lower 3 = .ok (.istore 5, 2) := by decide +kernel
theorem dX12_lower_5 : decode cX12_lower 5 = .ok (.iload 5, 2) := by decide +kernel
theorem dX12_lower_7 : decode cX12_lower 7 = .ok (.iload_n 2, 1) := by decide +kernel
theorem dX12_lower_8 : decode cX12_lower 8 = .ok (.if_icmp .ge 26, 3) := by decide +kernel
theorem dX12_lower_11 : decode cX12_lower 11 = .ok (.lload_n 3, 1) := by decide +kernel
theorem dX12_lower_12 : decode cX12_lower 12 = .ok (.aload_n 0, 1) := by decide +kernel
theorem dX12_lower_13 : decode cX12_lower 13 = .ok (.iload_n 1, 1) := by decide +kernel
theorem dX12_lower_14 : decode cX12_lower 14 = .ok (.iconst 4, 1) := by decide +kernel
theorem dX12_lower_15 : decode cX12_lower 15 = .ok (.iconst 2, 1) := by decide +kernel
theorem dX12_lower_16 : decode cX12_lower 16 = .ok (.iload 5, 2) := by decide +kernel
theorem dX12_lower_18 : decode cX12_lower 18 = .ok (.imul, 1) := by decide +kernel
theorem dX12_lower_19 : decode cX12_lower 19 = .ok (.iadd, 1) := by decide +kernel
theorem dX12_lower_20 : decode cX12_lower 20 = .ok (.iconst 1, 1) := by decide +kernel
theorem dX12_lower_21 : decode cX12_lower 21 = .ok (.iadd, 1) := by decide +kernel
theorem dX12_lower_22 : decode cX12_lower 22 = .ok (.invokevirtual 115, 3) := by decide +kernel
theorem dX12_lower_25 : decode cX12_lower 25 = .ok (.i2l, 1) := by decide +kernel
theorem dX12_lower_26 : decode cX12_lower 26 = .ok (.lmul, 1) := by decide +kernel
theorem dX12_lower_27 : decode cX12_lower 27 = .ok (.lstore_n 3, 1) := by decide +kernel
theorem dX12_lower_28 : decode cX12_lower 28 = .ok (.iinc 5 1, 3) := by decide +kernel
theorem dX12_lower_31 : decode cX12_lower 31 = .ok (.goto (-26), 3) := by decide +kernel
theorem dX12_lower_34 : decode cX12_lower 34 = .ok (.lload_n 3, 1) := by decide +kernel
theorem dX12_lower_35 : decode cX12_lower 35 = .ok (.lreturn, 1) := by decide +kernel
theorem dX12_common_0 : decode cX12_common 0 = .ok (.lload_n 0, 1) := by decide +kernel
theorem dX12_common_1 : decode cX12_common 1 = .ok (.lstore 4, 2) := by decide +kernel
theorem dX12_common_3 : decode cX12_common 3 = .ok (.lload_n 2, 1) := by decide +kernel
theorem dX12_common_4 : decode cX12_common 4 = .ok (.lstore 6, 2) := by decide +kernel
theorem dX12_common_6 : decode cX12_common 6 = .ok (.lload 6, 2) := by decide +kernel
theorem dX12_common_8 : decode cX12_common 8 = .ok (.lconst 0, 1) := by decide +kernel
theorem dX12_common_9 : decode cX12_common 9 = .ok (.lcmp, 1) := by decide +kernel
theorem dX12_common_10 : decode cX12_common 10 = .ok (.ifCond .eq 21, 3) := by decide +kernel
theorem dX12_common_13 : decode cX12_common 13 = .ok (.lload 4, 2) := by decide +kernel
theorem dX12_common_15 : decode cX12_common 15 = .ok (.lload 6, 2) := by decide +kernel
theorem dX12_common_17 : decode cX12_common 17 = .ok (.lrem, 1) := by decide +kernel
theorem dX12_common_18 : decode cX12_common 18 = .ok (.lstore 8, 2) := by decide +kernel
theorem dX12_common_20 : decode cX12_common 20 = .ok (.lload 6, 2) := by decide +kernel
theorem dX12_common_22 : decode cX12_common 22 = .ok (.lstore 4, 2) := by decide +kernel
theorem dX12_common_24 : decode cX12_common 24 = .ok (.lload 8, 2) := by decide +kernel
theorem dX12_common_26 : decode cX12_common 26 = .ok (.lstore 6, 2) := by decide +kernel
theorem dX12_common_28 : decode cX12_common 28 = .ok (.goto (-22), 3) := by decide +kernel
theorem dX12_common_31 : decode cX12_common 31 = .ok (.lload 4, 2) := by decide +kernel
theorem dX12_common_33 : decode cX12_common 33 = .ok (.lreturn, 1) := by decide +kernel
theorem dX12_part_0 : decode cX12_part 0 = .ok (.lload_n 0, 1) := by decide +kernel
theorem dX12_part_1 : decode cX12_part 1 = .ok (.lload_n 2, 1) := by decide +kernel
theorem dX12_part_2 : decode cX12_part 2 = .ok (.invokestatic 324, 3) := by decide +kernel
theorem dX12_part_5 : decode cX12_part 5 = .ok (.lstore 5, 2) := by decide +kernel
theorem dX12_part_7 : decode cX12_part 7 = .ok (.iload 4, 2) := by decide +kernel
theorem dX12_part_9 : decode cX12_part 9 = .ok (.ifCond .ne 10, 3) := by decide +kernel
theorem dX12_part_12 : decode cX12_part 12 = .ok (.lload_n 0, 1) := by decide +kernel
theorem dX12_part_13 : decode cX12_part 13 = .ok (.lload 5, 2) := by decide +kernel
theorem dX12_part_15 : decode cX12_part 15 = .ok (.ldiv, 1) := by decide +kernel
theorem dX12_part_16 : decode cX12_part 16 = .ok (.goto 7, 3) := by decide +kernel
theorem dX12_part_19 : decode cX12_part 19 = .ok (.lload_n 2, 1) := by decide +kernel
theorem dX12_part_20 : decode cX12_part 20 = .ok (.lload 5, 2) := by decide +kernel
theorem dX12_part_22 : decode cX12_part 22 = .ok (.ldiv, 1) := by decide +kernel
theorem dX12_part_23 : decode cX12_part 23 = .ok (.lreturn, 1) := by decide +kernel
theorem dX12_upOf_0 : decode cX12_upOf 0 = .ok (.aload_n 0, 1) := by decide +kernel
theorem dX12_upOf_1 : decode cX12_upOf 1 = .ok (.iload_n 1, 1) := by decide +kernel
theorem dX12_upOf_2 : decode cX12_upOf 2 = .ok (.aload_n 0, 1) := by decide +kernel
theorem dX12_upOf_3 : decode cX12_upOf 3 = .ok (.iload_n 1, 1) := by decide +kernel
theorem dX12_upOf_4 : decode cX12_upOf 4 = .ok (.iconst 3, 1) := by decide +kernel
theorem dX12_upOf_5 : decode cX12_upOf 5 = .ok (.invokevirtual 115, 3) := by decide +kernel
theorem dX12_upOf_8 : decode cX12_upOf 8 = .ok (.invokevirtual 328, 3) := by decide +kernel
theorem dX12_upOf_11 : decode cX12_upOf 11 = .ok (.lreturn, 1) := by decide +kernel
theorem dX12_lowOf_0 : decode cX12_lowOf 0 = .ok (.aload_n 0, 1) := by decide +kernel
theorem dX12_lowOf_1 : decode cX12_lowOf 1 = .ok (.iload_n 1, 1) := by decide +kernel
theorem dX12_lowOf_2 : decode cX12_lowOf 2 = .ok (.aload_n 0, 1) := by decide +kernel
theorem dX12_lowOf_3 : decode cX12_lowOf 3 = .ok (.iload_n 1, 1) := by decide +kernel
theorem dX12_lowOf_4 : decode cX12_lowOf 4 = .ok (.iconst 3, 1) := by decide +kernel
theorem dX12_lowOf_5 : decode cX12_lowOf 5 = .ok (.invokevirtual 115, 3) := by decide +kernel
theorem dX12_lowOf_8 : decode cX12_lowOf 8 = .ok (.invokevirtual 331, 3) := by decide +kernel
theorem dX12_lowOf_11 : decode cX12_lowOf 11 = .ok (.lreturn, 1) := by decide +kernel
theorem dX12_rate_0 : decode cX12_rate 0 = .ok (.aload_n 0, 1) := by decide +kernel
theorem dX12_rate_1 : decode cX12_rate 1 = .ok (.iconst 0, 1) := by decide +kernel
theorem dX12_rate_2 : decode cX12_rate 2 = .ok (.putfield 88, 3) := by decide +kernel
theorem dX12_rate_5 : decode cX12_rate 5 = .ok (.aload_n 0, 1) := by decide +kernel
theorem dX12_rate_6 : decode cX12_rate 6 = .ok (.iload_n 1, 1) := by decide +kernel
theorem dX12_rate_7 : decode cX12_rate 7 = .ok (.invokevirtual 111, 3) := by decide +kernel
theorem dX12_rate_10 : decode cX12_rate 10 = .ok (.ifCond .eq 30, 3) := by decide +kernel
theorem dX12_rate_13 : decode cX12_rate 13 = .ok (.iload_n 2, 1) := by decide +kernel
theorem dX12_rate_14 : decode cX12_rate 14 = .ok (.i2l, 1) := by decide +kernel
theorem dX12_rate_15 : decode cX12_rate 15 = .ok (.lconst 0, 1) := by decide +kernel
theorem dX12_rate_16 : decode cX12_rate 16 = .ok (.lconst 1, 1) := by decide +kernel
theorem dX12_rate_17 : decode cX12_rate 17 = .ok (.invokestatic 98, 3) := by decide +kernel
theorem dX12_rate_20 : decode cX12_rate 20 = .ok (.ifCond .eq 20, 3) := by decide +kernel
theorem dX12_rate_23 : decode cX12_rate 23 = .ok (.aload_n 0, 1) := by decide +kernel
theorem dX12_rate_24 : decode cX12_rate 24 = .ok (.iload_n 1, 1) := by decide +kernel
theorem dX12_rate_25 : decode cX12_rate 25 = .ok (.invokevirtual 334, 3) := by decide +kernel
theorem dX12_rate_28 : decode cX12_rate 28 = .ok (.aload_n 0, 1) := by decide +kernel
theorem dX12_rate_29 : decode cX12_rate 29 = .ok (.iload_n 1, 1) := by decide +kernel
theorem dX12_rate_30 : decode cX12_rate 30 = .ok (.invokevirtual 338, 3) := by decide +kernel
theorem dX12_rate_33 : decode cX12_rate 33 = .ok (.iload_n 2, 1) := by decide +kernel
theorem dX12_rate_34 : decode cX12_rate 34 = .ok (.invokestatic 341, 3) := by decide +kernel
theorem dX12_rate_37 : decode cX12_rate 37 = .ok (.goto 6, 3) := by decide +kernel
theorem dX12_rate_40 : decode cX12_rate 40 = .ok (.ldc2_w 178, 3) := by decide +kernel
theorem dX12_rate_43 : decode cX12_rate 43 = .ok (.lreturn, 1) := by decide +kernel
theorem dX12_through_0 : decode cX12_through 0 = .ok (.iload_n 2, 1) := by decide +kernel
theorem dX12_through_1 : decode cX12_through 1 = .ok (.ifCond .ne 7, 3) := by decide +kernel
theorem dX12_through_4 : decode cX12_through 4 = .ok (.lload_n 0, 1) := by decide +kernel
theorem dX12_through_5 : decode cX12_through 5 = .ok (.goto 9, 3) := by decide +kernel
theorem dX12_through_8 : decode cX12_through 8 = .ok (.lload_n 0, 1) := by decide +kernel
theorem dX12_through_9 : decode cX12_through 9 = .ok (.lload_n 0, 1) := by decide +kernel
theorem dX12_through_10 : decode cX12_through 10 = .ok (.iload_n 2, 1) := by decide +kernel
theorem dX12_through_11 : decode cX12_through 11 = .ok (.i2l, 1) := by decide +kernel
theorem dX12_through_12 : decode cX12_through 12 = .ok (.ldiv, 1) := by decide +kernel
theorem dX12_through_13 : decode cX12_through 13 = .ok (.lsub, 1) := by decide +kernel
theorem dX12_through_14 : decode cX12_through 14 = .ok (.lreturn, 1) := by decide +kernel
theorem dX12_turnsOf_0 : decode cX12_turnsOf 0 = .ok (.lload_n 2, 1) := by decide +kernel
theorem dX12_turnsOf_1 : decode cX12_turnsOf 1 = .ok (.aload_n 0, 1) := by decide +kernel
theorem dX12_turnsOf_2 : decode cX12_turnsOf 2 = .ok (.iload_n 1, 1) := by decide +kernel
theorem dX12_turnsOf_3 : decode cX12_turnsOf 3 = .ok (.invokevirtual 334, 3) := by decide +kernel
theorem dX12_turnsOf_6 : decode cX12_turnsOf 6 = .ok (.lmul, 1) := by decide +kernel
theorem dX12_turnsOf_7 : decode cX12_turnsOf 7 = .ok (.aload_n 0, 1) := by decide +kernel
theorem dX12_turnsOf_8 : decode cX12_turnsOf 8 = .ok (.iload_n 1, 1) := by decide +kernel
theorem dX12_turnsOf_9 : decode cX12_turnsOf 9 = .ok (.invokevirtual 338, 3) := by decide +kernel
theorem dX12_turnsOf_12 : decode cX12_turnsOf 12 = .ok (.ldiv, 1) := by decide +kernel
theorem dX12_turnsOf_13 : decode cX12_turnsOf 13 = .ok (.lreturn, 1) := by decide +kernel
theorem dX12_markOf_0 : decode cX12_markOf 0 = .ok (.lload_n 0, 1) := by decide +kernel
theorem dX12_markOf_1 : decode cX12_markOf 1 = .ok (.lload_n 2, 1) := by decide +kernel
theorem dX12_markOf_2 : decode cX12_markOf 2 = .ok (.lmul, 1) := by decide +kernel
theorem dX12_markOf_3 : decode cX12_markOf 3 = .ok (.iload 6, 2) := by decide +kernel
theorem dX12_markOf_5 : decode cX12_markOf 5 = .ok (.i2l, 1) := by decide +kernel
theorem dX12_markOf_6 : decode cX12_markOf 6 = .ok (.lmul, 1) := by decide +kernel
theorem dX12_markOf_7 : decode cX12_markOf 7 = .ok (.lload 4, 2) := by decide +kernel
theorem dX12_markOf_9 : decode cX12_markOf 9 = .ok (.ldiv, 1) := by decide +kernel
theorem dX12_markOf_10 : decode cX12_markOf 10 = .ok (.iload 7, 2) := by decide +kernel
theorem dX12_markOf_12 : decode cX12_markOf 12 = .ok (.i2l, 1) := by decide +kernel
theorem dX12_markOf_13 : decode cX12_markOf 13 = .ok (.ladd, 1) := by decide +kernel
theorem dX12_markOf_14 : decode cX12_markOf 14 = .ok (.iload 6, 2) := by decide +kernel
theorem dX12_markOf_16 : decode cX12_markOf 16 = .ok (.i2l, 1) := by decide +kernel
theorem dX12_markOf_17 : decode cX12_markOf 17 = .ok (.lrem, 1) := by decide +kernel
theorem dX12_markOf_18 : decode cX12_markOf 18 = .ok (.l2i, 1) := by decide +kernel
theorem dX12_markOf_19 : decode cX12_markOf 19 = .ok (.ireturn, 1) := by decide +kernel
theorem dX12_markAt_0 : decode cX12_markAt 0 = .ok (.lload_n 2, 1) := by decide +kernel
theorem dX12_markAt_1 : decode cX12_markAt 1 = .ok (.aload_n 0, 1) := by decide +kernel
theorem dX12_markAt_2 : decode cX12_markAt 2 = .ok (.iload_n 1, 1) := by decide +kernel
theorem dX12_markAt_3 : decode cX12_markAt 3 = .ok (.invokevirtual 334, 3) := by decide +kernel
theorem dX12_markAt_6 : decode cX12_markAt 6 = .ok (.aload_n 0, 1) := by decide +kernel
theorem dX12_markAt_7 : decode cX12_markAt 7 = .ok (.iload_n 1, 1) := by decide +kernel
theorem dX12_markAt_8 : decode cX12_markAt 8 = .ok (.invokevirtual 338, 3) := by decide +kernel
theorem dX12_markAt_11 : decode cX12_markAt 11 = .ok (.aload_n 0, 1) := by decide +kernel
theorem dX12_markAt_12 : decode cX12_markAt 12 = .ok (.iload_n 1, 1) := by decide +kernel
theorem dX12_markAt_13 : decode cX12_markAt 13 = .ok (.iconst 0, 1) := by decide +kernel
theorem dX12_markAt_14 : decode cX12_markAt 14 = .ok (.invokevirtual 115, 3) := by decide +kernel
theorem dX12_markAt_17 : decode cX12_markAt 17 = .ok (.aload_n 0, 1) := by decide +kernel
theorem dX12_markAt_18 : decode cX12_markAt 18 = .ok (.iload_n 1, 1) := by decide +kernel
theorem dX12_markAt_19 : decode cX12_markAt 19 = .ok (.iconst 1, 1) := by decide +kernel
theorem dX12_markAt_20 : decode cX12_markAt 20 = .ok (.invokevirtual 115, 3) := by decide +kernel
theorem dX12_markAt_23 : decode cX12_markAt 23 = .ok (.invokestatic 345, 3) := by decide +kernel
theorem dX12_markAt_26 : decode cX12_markAt 26 = .ok (.ireturn, 1) := by decide +kernel
theorem dX12_isWrong_0 : decode cX12_isWrong 0 = .ok (.aload_n 0, 1) := by decide +kernel
theorem dX12_isWrong_1 : decode cX12_isWrong 1 = .ok (.iload_n 1, 1) := by decide +kernel
theorem dX12_isWrong_2 : decode cX12_isWrong 2 = .ok (.iload_n 2, 1) := by decide +kernel
theorem dX12_isWrong_3 : decode cX12_isWrong 3 = .ok (.invokevirtual 321, 3) := by decide +kernel
theorem dX12_isWrong_6 : decode cX12_isWrong 6 = .ok (.istore_n 3, 1) := by decide +kernel
theorem dX12_isWrong_7 : decode cX12_isWrong 7 = .ok (.iload_n 3, 1) := by decide +kernel
theorem dX12_isWrong_8 : decode cX12_isWrong 8 = .ok (.ldc_w 306, 3) := by decide +kernel
theorem dX12_isWrong_11 : decode cX12_isWrong 11 = .ok (.if_icmp .eq 22, 3) := by decide +kernel
theorem dX12_isWrong_14 : decode cX12_isWrong 14 = .ok (.iload_n 3, 1) := by decide +kernel
theorem dX12_isWrong_15 : decode cX12_isWrong 15 = .ok (.aload_n 0, 1) := by decide +kernel
theorem dX12_isWrong_16 : decode cX12_isWrong 16 = .ok (.iload_n 1, 1) := by decide +kernel
theorem dX12_isWrong_17 : decode cX12_isWrong 17 = .ok (.aload_n 0, 1) := by decide +kernel
theorem dX12_isWrong_18 : decode cX12_isWrong 18 = .ok (.iload_n 1, 1) := by decide +kernel
theorem dX12_isWrong_19 : decode cX12_isWrong 19 = .ok (.iload_n 2, 1) := by decide +kernel
theorem dX12_isWrong_20 : decode cX12_isWrong 20 = .ok (.invokevirtual 307, 3) := by decide +kernel
theorem dX12_isWrong_23 : decode cX12_isWrong 23 = .ok (.invokevirtual 349, 3) := by decide +kernel
theorem dX12_isWrong_26 : decode cX12_isWrong 26 = .ok (.if_icmp .eq 7, 3) := by decide +kernel
theorem dX12_isWrong_29 : decode cX12_isWrong 29 = .ok (.iconst 1, 1) := by decide +kernel
theorem dX12_isWrong_30 : decode cX12_isWrong 30 = .ok (.goto 4, 3) := by decide +kernel
theorem dX12_isWrong_33 : decode cX12_isWrong 33 = .ok (.iconst 0, 1) := by decide +kernel
theorem dX12_isWrong_34 : decode cX12_isWrong 34 = .ok (.ireturn, 1) := by decide +kernel
theorem dX12_shows_0 : decode cX12_shows 0 = .ok (.aload_n 0, 1) := by decide +kernel
theorem dX12_shows_1 : decode cX12_shows 1 = .ok (.iconst 0, 1) := by decide +kernel
theorem dX12_shows_2 : decode cX12_shows 2 = .ok (.putfield 88, 3) := by decide +kernel
theorem dX12_shows_5 : decode cX12_shows 5 = .ok (.aload_n 0, 1) := by decide +kernel
theorem dX12_shows_6 : decode cX12_shows 6 = .ok (.iload_n 1, 1) := by decide +kernel
theorem dX12_shows_7 : decode cX12_shows 7 = .ok (.invokevirtual 111, 3) := by decide +kernel
theorem dX12_shows_10 : decode cX12_shows 10 = .ok (.ifCond .eq 22, 3) := by decide +kernel
theorem dX12_shows_13 : decode cX12_shows 13 = .ok (.iload_n 2, 1) := by decide +kernel
theorem dX12_shows_14 : decode cX12_shows 14 = .ok (.invokestatic 318, 3) := by decide +kernel
theorem dX12_shows_17 : decode cX12_shows 17 = .ok (.ifCond .eq 15, 3) := by decide +kernel
theorem dX12_shows_20 : decode cX12_shows 20 = .ok (.iload_n 3, 1) := by decide +kernel
theorem dX12_shows_21 : decode cX12_shows 21 = .ok (.i2l, 1) := by decide +kernel
theorem dX12_shows_22 : decode cX12_shows 22 = .ok (.lconst 0, 1) := by decide +kernel
theorem dX12_shows_23 : decode cX12_shows 23 = .ok (.ldc2_w 353, 3) := by decide +kernel
theorem dX12_shows_26 : decode cX12_shows 26 = .ok (.invokestatic 98, 3) := by decide +kernel
theorem dX12_shows_29 : decode cX12_shows 29 = .ok (.ifCond .ne 5, 3) := by decide +kernel
theorem dX12_shows_32 : decode cX12_shows 32 = .ok (.iconst (-1), 1) := by decide +kernel
theorem dX12_shows_33 : decode cX12_shows 33 = .ok (.ireturn, 1) := by decide +kernel
theorem dX12_shows_34 : decode cX12_shows 34 = .ok (.aload_n 0, 1) := by decide +kernel
theorem dX12_shows_35 : decode cX12_shows 35 = .ok (.iload_n 1, 1) := by decide +kernel
theorem dX12_shows_36 : decode cX12_shows 36 = .ok (.aload_n 0, 1) := by decide +kernel
theorem dX12_shows_37 : decode cX12_shows 37 = .ok (.iload_n 1, 1) := by decide +kernel
theorem dX12_shows_38 : decode cX12_shows 38 = .ok (.iload_n 2, 1) := by decide +kernel
theorem dX12_shows_39 : decode cX12_shows 39 = .ok (.invokevirtual 307, 3) := by decide +kernel
theorem dX12_shows_42 : decode cX12_shows 42 = .ok (.invokevirtual 311, 3) := by decide +kernel
theorem dX12_shows_45 : decode cX12_shows 45 = .ok (.lstore 4, 2) := by decide +kernel
theorem dX12_shows_47 : decode cX12_shows 47 = .ok (.iload_n 3, 1) := by decide +kernel
theorem dX12_shows_48 : decode cX12_shows 48 = .ok (.ifCond .ne 17, 3) := by decide +kernel
theorem dX12_shows_51 : decode cX12_shows 51 = .ok (.aload_n 0, 1) := by decide +kernel
theorem dX12_shows_52 : decode cX12_shows 52 = .ok (.iload_n 1, 1) := by decide +kernel
theorem dX12_shows_53 : decode cX12_shows 53 = .ok (.aload_n 0, 1) := by decide +kernel
theorem dX12_shows_54 : decode cX12_shows 54 = .ok (.iload_n 1, 1) := by decide +kernel
theorem dX12_shows_55 : decode cX12_shows 55 = .ok (.iload_n 2, 1) := by decide +kernel
theorem dX12_shows_56 : decode cX12_shows 56 = .ok (.invokevirtual 307, 3) := by decide +kernel
theorem dX12_shows_59 : decode cX12_shows 59 = .ok (.invokevirtual 349, 3) := by decide +kernel
theorem dX12_shows_62 : decode cX12_shows 62 = .ok (.goto 32, 3) := by decide +kernel
theorem dX12_shows_65 : decode cX12_shows 65 = .ok (.iload_n 3, 1) := by decide +kernel
theorem dX12_shows_66 : decode cX12_shows 66 = .ok (.iconst 1, 1) := by decide +kernel
theorem dX12_shows_67 : decode cX12_shows 67 = .ok (.if_icmp .ne 13, 3) := by decide +kernel
theorem dX12_shows_70 : decode cX12_shows 70 = .ok (.lload 4, 2) := by decide +kernel
theorem dX12_shows_72 : decode cX12_shows 72 = .ok (.ldc2_w 105, 3) := by decide +kernel
theorem dX12_shows_75 : decode cX12_shows 75 = .ok (.lrem, 1) := by decide +kernel
theorem dX12_shows_76 : decode cX12_shows 76 = .ok (.l2i, 1) := by decide +kernel
theorem dX12_shows_77 : decode cX12_shows 77 = .ok (.goto 17, 3) := by decide +kernel
theorem dX12_shows_80 : decode cX12_shows 80 = .ok (.aload_n 0, 1) := by decide +kernel
theorem dX12_shows_81 : decode cX12_shows 81 = .ok (.iload_n 1, 1) := by decide +kernel
theorem dX12_shows_82 : decode cX12_shows 82 = .ok (.iload_n 2, 1) := by decide +kernel
theorem dX12_shows_83 : decode cX12_shows 83 = .ok (.invokevirtual 355, 3) := by decide +kernel
theorem dX12_shows_86 : decode cX12_shows 86 = .ok (.ifCond .eq 7, 3) := by decide +kernel
theorem dX12_shows_89 : decode cX12_shows 89 = .ok (.iconst 1, 1) := by decide +kernel
theorem dX12_shows_90 : decode cX12_shows 90 = .ok (.goto 4, 3) := by decide +kernel
theorem dX12_shows_93 : decode cX12_shows 93 = .ok (.iconst 0, 1) := by decide +kernel
theorem dX12_shows_94 : decode cX12_shows 94 = .ok (.ireturn, 1) := by decide +kernel
theorem dX12_wrong_0 : decode cX12_wrong 0 = .ok (.aload_n 0, 1) := by decide +kernel
theorem dX12_wrong_1 : decode cX12_wrong 1 = .ok (.iconst 0, 1) := by decide +kernel
theorem dX12_wrong_2 : decode cX12_wrong 2 = .ok (.putfield 88, 3) := by decide +kernel
theorem dX12_wrong_5 : decode cX12_wrong 5 = .ok (.aload_n 0, 1) := by decide +kernel
theorem dX12_wrong_6 : decode cX12_wrong 6 = .ok (.iload_n 1, 1) := by decide +kernel
theorem dX12_wrong_7 : decode cX12_wrong 7 = .ok (.invokevirtual 111, 3) := by decide +kernel
theorem dX12_wrong_10 : decode cX12_wrong 10 = .ok (.ifCond .eq 42, 3) := by decide +kernel
theorem dX12_wrong_13 : decode cX12_wrong 13 = .ok (.iload_n 2, 1) := by decide +kernel
theorem dX12_wrong_14 : decode cX12_wrong 14 = .ok (.invokestatic 318, 3) := by decide +kernel
theorem dX12_wrong_17 : decode cX12_wrong 17 = .ok (.ifCond .eq 35, 3) := by decide +kernel
theorem dX12_wrong_20 : decode cX12_wrong 20 = .ok (.iload_n 3, 1) := by decide +kernel
theorem dX12_wrong_21 : decode cX12_wrong 21 = .ok (.invokestatic 318, 3) := by decide +kernel
theorem dX12_wrong_24 : decode cX12_wrong 24 = .ok (.ifCond .eq 28, 3) := by decide +kernel
theorem dX12_wrong_27 : decode cX12_wrong 27 = .ok (.iload_n 3, 1) := by decide +kernel
theorem dX12_wrong_28 : decode cX12_wrong 28 = .ok (.iload_n 2, 1) := by decide +kernel
theorem dX12_wrong_29 : decode cX12_wrong 29 = .ok (.isub, 1) := by decide +kernel
theorem dX12_wrong_30 : decode cX12_wrong 30 = .ok (.i2l, 1) := by decide +kernel
theorem dX12_wrong_31 : decode cX12_wrong 31 = .ok (.lconst 0, 1) := by decide +kernel
theorem dX12_wrong_32 : decode cX12_wrong 32 = .ok (.ldc2_w 359, 3) := by decide +kernel
theorem dX12_wrong_35 : decode cX12_wrong 35 = .ok (.invokestatic 98, 3) := by decide +kernel
theorem dX12_wrong_38 : decode cX12_wrong 38 = .ok (.ifCond .eq 14, 3) := by decide +kernel
theorem dX12_wrong_41 : decode cX12_wrong 41 = .ok (.iload 4, 2) := by decide +kernel
theorem dX12_wrong_43 : decode cX12_wrong 43 = .ok (.i2l, 1) := by decide +kernel
theorem dX12_wrong_44 : decode cX12_wrong 44 = .ok (.lconst 0, 1) := by decide +kernel
theorem dX12_wrong_45 : decode cX12_wrong 45 = .ok (.lconst 1, 1) := by decide +kernel
theorem dX12_wrong_46 : decode cX12_wrong 46 = .ok (.invokestatic 98, 3) := by decide +kernel
theorem dX12_wrong_49 : decode cX12_wrong 49 = .ok (.ifCond .ne 5, 3) := by decide +kernel
theorem dX12_wrong_52 : decode cX12_wrong 52 = .ok (.iconst (-1), 1) := by decide +kernel
theorem dX12_wrong_53 : decode cX12_wrong 53 = .ok (.ireturn, 1) := by decide +kernel
theorem dX12_wrong_54 : decode cX12_wrong 54 = .ok (.iconst 0, 1) := by decide +kernel
theorem dX12_wrong_55 : decode cX12_wrong 55 = .ok (.istore 5, 2) := by decide +kernel
theorem dX12_wrong_57 : decode cX12_wrong 57 = .ok (.iload_n 2, 1) := by decide +kernel
theorem dX12_wrong_58 : decode cX12_wrong 58 = .ok (.istore 6, 2) := by decide +kernel
theorem dX12_wrong_60 : decode cX12_wrong 60 = .ok (.iload 6, 2) := by decide +kernel
theorem dX12_wrong_62 : decode cX12_wrong 62 = .ok (.iload_n 3, 1) := by decide +kernel
theorem dX12_wrong_63 : decode cX12_wrong 63 = .ok (.if_icmp .gt 30, 3) := by decide +kernel
theorem dX12_wrong_66 : decode cX12_wrong 66 = .ok (.aload_n 0, 1) := by decide +kernel
theorem dX12_wrong_67 : decode cX12_wrong 67 = .ok (.iload_n 1, 1) := by decide +kernel
theorem dX12_wrong_68 : decode cX12_wrong 68 = .ok (.iload 6, 2) := by decide +kernel
theorem dX12_wrong_70 : decode cX12_wrong 70 = .ok (.invokevirtual 355, 3) := by decide +kernel
theorem dX12_wrong_73 : decode cX12_wrong 73 = .ok (.ifCond .eq 14, 3) := by decide +kernel
theorem dX12_wrong_76 : decode cX12_wrong 76 = .ok (.iload 4, 2) := by decide +kernel
theorem dX12_wrong_78 : decode cX12_wrong 78 = .ok (.ifCond .ne 6, 3) := by decide +kernel
theorem dX12_wrong_81 : decode cX12_wrong 81 = .ok (.iload 6, 2) := by decide +kernel
theorem dX12_wrong_83 : decode cX12_wrong 83 = .ok (.ireturn, 1) := by decide +kernel
theorem dX12_wrong_84 : decode cX12_wrong 84 = .ok (.iinc 5 1, 3) := by decide +kernel
theorem dX12_wrong_87 : decode cX12_wrong 87 = .ok (.iinc 6 1, 3) := by decide +kernel
theorem dX12_wrong_90 : decode cX12_wrong 90 = .ok (.goto (-30), 3) := by decide +kernel
theorem dX12_wrong_93 : decode cX12_wrong 93 = .ok (.iload 4, 2) := by decide +kernel
theorem dX12_wrong_95 : decode cX12_wrong 95 = .ok (.ifCond .ne 7, 3) := by decide +kernel
theorem dX12_wrong_98 : decode cX12_wrong 98 = .ok (.iconst (-1), 1) := by decide +kernel
theorem dX12_wrong_99 : decode cX12_wrong 99 = .ok (.goto 5, 3) := by decide +kernel
theorem dX12_wrong_102 : decode cX12_wrong 102 = .ok (.iload 5, 2) := by decide +kernel
theorem dX12_wrong_104 : decode cX12_wrong 104 = .ok (.ireturn, 1) := by decide +kernel
theorem dX12_isRate_0 : decode cX12_isRate 0 = .ok (.iload_n 0, 1) := by decide +kernel
theorem dX12_isRate_1 : decode cX12_isRate 1 = .ok (.i2l, 1) := by decide +kernel
theorem dX12_isRate_2 : decode cX12_isRate 2 = .ok (.lconst 1, 1) := by decide +kernel
theorem dX12_isRate_3 : decode cX12_isRate 3 = .ok (.ldc2_w 361, 3) := by decide +kernel
theorem dX12_isRate_6 : decode cX12_isRate 6 = .ok (.invokestatic 98, 3) := by decide +kernel
theorem dX12_isRate_9 : decode cX12_isRate 9 = .ok (.ifCond .eq 19, 3) := by decide +kernel
theorem dX12_isRate_12 : decode cX12_isRate 12 = .ok (.iload_n 1, 1) := by decide +kernel
theorem dX12_isRate_13 : decode cX12_isRate 13 = .ok (.i2l, 1) := by decide +kernel
theorem dX12_isRate_14 : decode cX12_isRate 14 = .ok (.lconst 1, 1) := by decide +kernel
theorem dX12_isRate_15 : decode cX12_isRate 15 = .ok (.ldc2_w 361, 3) := by decide +kernel
theorem dX12_isRate_18 : decode cX12_isRate 18 = .ok (.invokestatic 98, 3) := by decide +kernel
theorem dX12_isRate_21 : decode cX12_isRate 21 = .ok (.ifCond .eq 7, 3) := by decide +kernel
theorem dX12_isRate_24 : decode cX12_isRate 24 = .ok (.iconst 1, 1) := by decide +kernel
theorem dX12_isRate_25 : decode cX12_isRate 25 = .ok (.goto 4, 3) := by decide +kernel
theorem dX12_isRate_28 : decode cX12_isRate 28 = .ok (.iconst 0, 1) := by decide +kernel
theorem dX12_isRate_29 : decode cX12_isRate 29 = .ok (.ireturn, 1) := by decide +kernel
theorem dX12_size_0 : decode cX12_size 0 = .ok (.lload_n 0, 1) := by decide +kernel
theorem dX12_size_1 : decode cX12_size 1 = .ok (.lconst 0, 1) := by decide +kernel
theorem dX12_size_2 : decode cX12_size 2 = .ok (.lcmp, 1) := by decide +kernel
theorem dX12_size_3 : decode cX12_size 3 = .ok (.ifCond .ge 8, 3) := by decide +kernel
theorem dX12_size_6 : decode cX12_size 6 = .ok (.lload_n 0, 1) := by decide +kernel
theorem dX12_size_7 : decode cX12_size 7 = .ok (.lneg, 1) := by decide +kernel
theorem dX12_size_8 : decode cX12_size 8 = .ok (.goto 4, 3) := by decide +kernel
theorem dX12_size_11 : decode cX12_size 11 = .ok (.lload_n 0, 1) := by decide +kernel
theorem dX12_size_12 : decode cX12_size 12 = .ok (.lreturn, 1) := by decide +kernel
theorem dX12_off_0 : decode cX12_off 0 = .ok (.aload_n 0, 1) := by decide +kernel
theorem dX12_off_1 : decode cX12_off 1 = .ok (.iconst 0, 1) := by decide +kernel
theorem dX12_off_2 : decode cX12_off 2 = .ok (.putfield 88, 3) := by decide +kernel
theorem dX12_off_5 : decode cX12_off 5 = .ok (.aload_n 0, 1) := by decide +kernel
theorem dX12_off_6 : decode cX12_off 6 = .ok (.iload_n 1, 1) := by decide +kernel
theorem dX12_off_7 : decode cX12_off 7 = .ok (.invokevirtual 111, 3) := by decide +kernel
theorem dX12_off_10 : decode cX12_off 10 = .ok (.ifCond .eq 24, 3) := by decide +kernel
theorem dX12_off_13 : decode cX12_off 13 = .ok (.iload_n 2, 1) := by decide +kernel
theorem dX12_off_14 : decode cX12_off 14 = .ok (.iload_n 3, 1) := by decide +kernel
theorem dX12_off_15 : decode cX12_off 15 = .ok (.invokestatic 363, 3) := by decide +kernel
theorem dX12_off_18 : decode cX12_off 18 = .ok (.ifCond .eq 16, 3) := by decide +kernel
theorem dX12_off_21 : decode cX12_off 21 = .ok (.iload 4, 2) := by decide +kernel
theorem dX12_off_23 : decode cX12_off 23 = .ok (.i2l, 1) := by decide +kernel
theorem dX12_off_24 : decode cX12_off 24 = .ok (.lconst 0, 1) := by decide +kernel
theorem dX12_off_25 : decode cX12_off 25 = .ok (.ldc2_w 353, 3) := by decide +kernel
theorem dX12_off_28 : decode cX12_off 28 = .ok (.invokestatic 98, 3) := by decide +kernel
theorem dX12_off_31 : decode cX12_off 31 = .ok (.ifCond .ne 7, 3) := by decide +kernel
theorem dX12_off_34 : decode cX12_off 34 = .ok (.ldc2_w 178, 3) := by decide +kernel
theorem dX12_off_37 : decode cX12_off 37 = .ok (.lreturn, 1) := by decide +kernel
theorem dX12_off_38 : decode cX12_off 38 = .ok (.aload_n 0, 1) := by decide +kernel
theorem dX12_off_39 : decode cX12_off 39 = .ok (.iload_n 1, 1) := by decide +kernel
theorem dX12_off_40 : decode cX12_off 40 = .ok (.invokevirtual 334, 3) := by decide +kernel
theorem dX12_off_43 : decode cX12_off 43 = .ok (.iload_n 3, 1) := by decide +kernel
theorem dX12_off_44 : decode cX12_off 44 = .ok (.i2l, 1) := by decide +kernel
theorem dX12_off_45 : decode cX12_off 45 = .ok (.lmul, 1) := by decide +kernel
theorem dX12_off_46 : decode cX12_off 46 = .ok (.aload_n 0, 1) := by decide +kernel
theorem dX12_off_47 : decode cX12_off 47 = .ok (.iload_n 1, 1) := by decide +kernel
theorem dX12_off_48 : decode cX12_off 48 = .ok (.invokevirtual 338, 3) := by decide +kernel
theorem dX12_off_51 : decode cX12_off 51 = .ok (.iload_n 2, 1) := by decide +kernel
theorem dX12_off_52 : decode cX12_off 52 = .ok (.i2l, 1) := by decide +kernel
theorem dX12_off_53 : decode cX12_off 53 = .ok (.lmul, 1) := by decide +kernel
theorem dX12_off_54 : decode cX12_off 54 = .ok (.lsub, 1) := by decide +kernel
theorem dX12_off_55 : decode cX12_off 55 = .ok (.invokestatic 366, 3) := by decide +kernel
theorem dX12_off_58 : decode cX12_off 58 = .ok (.lstore 5, 2) := by decide +kernel
theorem dX12_off_60 : decode cX12_off 60 = .ok (.aload_n 0, 1) := by decide +kernel
theorem dX12_off_61 : decode cX12_off 61 = .ok (.iload_n 1, 1) := by decide +kernel
theorem dX12_off_62 : decode cX12_off 62 = .ok (.invokevirtual 338, 3) := by decide +kernel
theorem dX12_off_65 : decode cX12_off 65 = .ok (.iload_n 3, 1) := by decide +kernel
theorem dX12_off_66 : decode cX12_off 66 = .ok (.i2l, 1) := by decide +kernel
theorem dX12_off_67 : decode cX12_off 67 = .ok (.lmul, 1) := by decide +kernel
theorem dX12_off_68 : decode cX12_off 68 = .ok (.lstore 7, 2) := by decide +kernel
theorem dX12_off_70 : decode cX12_off 70 = .ok (.iload 4, 2) := by decide +kernel
theorem dX12_off_72 : decode cX12_off 72 = .ok (.iconst 2, 1) := by decide +kernel
theorem dX12_off_73 : decode cX12_off 73 = .ok (.if_icmp .ge 13, 3) := by decide +kernel
theorem dX12_off_76 : decode cX12_off 76 = .ok (.lload 5, 2) := by decide +kernel
theorem dX12_off_78 : decode cX12_off 78 = .ok (.lload 7, 2) := by decide +kernel
theorem dX12_off_80 : decode cX12_off 80 = .ok (.iload 4, 2) := by decide +kernel
theorem dX12_off_82 : decode cX12_off 82 = .ok (.invokestatic 341, 3) := by decide +kernel
theorem dX12_off_85 : decode cX12_off 85 = .ok (.lreturn, 1) := by decide +kernel
theorem dX12_off_86 : decode cX12_off 86 = .ok (.lload 5, 2) := by decide +kernel
theorem dX12_off_88 : decode cX12_off 88 = .ok (.lconst 0, 1) := by decide +kernel
theorem dX12_off_89 : decode cX12_off 89 = .ok (.lcmp, 1) := by decide +kernel
theorem dX12_off_90 : decode cX12_off 90 = .ok (.ifCond .ne 9, 3) := by decide +kernel
theorem dX12_off_93 : decode cX12_off 93 = .ok (.ldc2_w 370, 3) := by decide +kernel
theorem dX12_off_96 : decode cX12_off 96 = .ok (.goto 13, 3) := by decide +kernel
theorem dX12_off_99 : decode cX12_off 99 = .ok (.lload 7, 2) := by decide +kernel
theorem dX12_off_101 : decode cX12_off 101 = .ok (.lload 5, 2) := by decide +kernel
theorem dX12_off_103 : decode cX12_off 103 = .ok (.ladd, 1) := by decide +kernel
theorem dX12_off_104 : decode cX12_off 104 = .ok (.lconst 1, 1) := by decide +kernel
theorem dX12_off_105 : decode cX12_off 105 = .ok (.lsub, 1) := by decide +kernel
theorem dX12_off_106 : decode cX12_off 106 = .ok (.lload 5, 2) := by decide +kernel
theorem dX12_off_108 : decode cX12_off 108 = .ok (.ldiv, 1) := by decide +kernel
theorem dX12_off_109 : decode cX12_off 109 = .ok (.lstore 9, 2) := by decide +kernel
theorem dX12_off_111 : decode cX12_off 111 = .ok (.lload 9, 2) := by decide +kernel
theorem dX12_off_113 : decode cX12_off 113 = .ok (.ldc2_w 105, 3) := by decide +kernel
theorem dX12_off_116 : decode cX12_off 116 = .ok (.lcmp, 1) := by decide +kernel
theorem dX12_off_117 : decode cX12_off 117 = .ok (.ifCond .gt 8, 3) := by decide +kernel
theorem dX12_off_120 : decode cX12_off 120 = .ok (.lload 9, 2) := by decide +kernel
theorem dX12_off_122 : decode cX12_off 122 = .ok (.goto 6, 3) := by decide +kernel
theorem dX12_off_125 : decode cX12_off 125 = .ok (.ldc2_w 178, 3) := by decide +kernel
theorem dX12_off_128 : decode cX12_off 128 = .ok (.lreturn, 1) := by decide +kernel
theorem dX12_nextRow_0 : decode cX12_nextRow 0 = .ok (.iload_n 1, 1) := by decide +kernel
theorem dX12_nextRow_1 : decode cX12_nextRow 1 = .ok (.iconst 1, 1) := by decide +kernel
theorem dX12_nextRow_2 : decode cX12_nextRow 2 = .ok (.isub, 1) := by decide +kernel
theorem dX12_nextRow_3 : decode cX12_nextRow 3 = .ok (.istore_n 2, 1) := by decide +kernel
theorem dX12_nextRow_4 : decode cX12_nextRow 4 = .ok (.iload_n 2, 1) := by decide +kernel
theorem dX12_nextRow_5 : decode cX12_nextRow 5 = .ok (.ifCond .lt 64, 3) := by decide +kernel
theorem dX12_nextRow_8 : decode cX12_nextRow 8 = .ok (.aload_n 0, 1) := by decide +kernel
theorem dX12_nextRow_9 : decode cX12_nextRow 9 = .ok (.getfield 65, 3) := by decide +kernel
theorem dX12_nextRow_12 : decode cX12_nextRow 12 = .ok (.iload_n 2, 1) := by decide +kernel
theorem dX12_nextRow_13 : decode cX12_nextRow 13 = .ok (.dup2, 1) := by decide +kernel
theorem dX12_nextRow_14 : decode cX12_nextRow 14 = .ok (.iaload, 1) := by decide +kernel
theorem dX12_nextRow_15 : decode cX12_nextRow 15 = .ok (.iconst 1, 1) := by decide +kernel
theorem dX12_nextRow_16 : decode cX12_nextRow 16 = .ok (.iadd, 1) := by decide +kernel
theorem dX12_nextRow_17 : decode cX12_nextRow 17 = .ok (.iastore, 1) := by decide +kernel
theorem dX12_nextRow_18 : decode cX12_nextRow 18 = .ok (.aload_n 0, 1) := by decide +kernel
theorem dX12_nextRow_19 : decode cX12_nextRow 19 = .ok (.getfield 65, 3) := by decide +kernel
theorem dX12_nextRow_22 : decode cX12_nextRow 22 = .ok (.iload_n 2, 1) := by decide +kernel
theorem dX12_nextRow_23 : decode cX12_nextRow 23 = .ok (.iaload, 1) := by decide +kernel
theorem dX12_nextRow_24 : decode cX12_nextRow 24 = .ok (.aload_n 0, 1) := by decide +kernel
theorem dX12_nextRow_25 : decode cX12_nextRow 25 = .ok (.getfield 13, 3) := by decide +kernel
theorem dX12_nextRow_28 : decode cX12_nextRow 28 = .ok (.iconst 1, 1) := by decide +kernel
theorem dX12_nextRow_29 : decode cX12_nextRow 29 = .ok (.iaload, 1) := by decide +kernel
theorem dX12_nextRow_30 : decode cX12_nextRow 30 = .ok (.if_icmp .ne 16, 3) := by decide +kernel
theorem dX12_nextRow_33 : decode cX12_nextRow 33 = .ok (.aload_n 0, 1) := by decide +kernel
theorem dX12_nextRow_34 : decode cX12_nextRow 34 = .ok (.getfield 65, 3) := by decide +kernel
theorem dX12_nextRow_37 : decode cX12_nextRow 37 = .ok (.iload_n 2, 1) := by decide +kernel
theorem dX12_nextRow_38 : decode cX12_nextRow 38 = .ok (.iconst (-1), 1) := by decide +kernel
theorem dX12_nextRow_39 : decode cX12_nextRow 39 = .ok (.iastore, 1) := by decide +kernel
theorem dX12_nextRow_40 : decode cX12_nextRow 40 = .ok (.iinc 2 (-1), 3) := by decide +kernel
theorem dX12_nextRow_43 : decode cX12_nextRow 43 = .ok (.goto (-39), 3) := by decide +kernel
theorem dX12_nextRow_46 : decode cX12_nextRow 46 = .ok (.aload_n 0, 1) := by decide +kernel
theorem dX12_nextRow_47 : decode cX12_nextRow 47 = .ok (.iload_n 2, 1) := by decide +kernel
theorem dX12_nextRow_48 : decode cX12_nextRow 48 = .ok (.invokevirtual 372, 3) := by decide +kernel
theorem dX12_nextRow_51 : decode cX12_nextRow 51 = .ok (.ifCond .eq (-47), 3) := by decide +kernel
theorem dX12_nextRow_54 : decode cX12_nextRow 54 = .ok (.iload_n 2, 1) := by decide +kernel
theorem dX12_nextRow_55 : decode cX12_nextRow 55 = .ok (.iload_n 1, 1) := by decide +kernel
theorem dX12_nextRow_56 : decode cX12_nextRow 56 = .ok (.iconst 1, 1) := by decide +kernel
theorem dX12_nextRow_57 : decode cX12_nextRow 57 = .ok (.isub, 1) := by decide +kernel
theorem dX12_nextRow_58 : decode cX12_nextRow 58 = .ok (.if_icmp .ne 5, 3) := by decide +kernel
theorem dX12_nextRow_61 : decode cX12_nextRow 61 = .ok (.iconst 1, 1) := by decide +kernel
theorem dX12_nextRow_62 : decode cX12_nextRow 62 = .ok (.ireturn, 1) := by decide +kernel
theorem dX12_nextRow_63 : decode cX12_nextRow 63 = .ok (.iinc 2 1, 3) := by decide +kernel
theorem dX12_nextRow_66 : decode cX12_nextRow 66 = .ok (.goto (-62), 3) := by decide +kernel
theorem dX12_nextRow_69 : decode cX12_nextRow 69 = .ok (.iconst 0, 1) := by decide +kernel
theorem dX12_nextRow_70 : decode cX12_nextRow 70 = .ok (.ireturn, 1) := by decide +kernel
theorem dX12_isNew_0 : decode cX12_isNew 0 = .ok (.iconst 1, 1) := by decide +kernel
theorem dX12_isNew_1 : decode cX12_isNew 1 = .ok (.istore_n 2, 1) := by decide +kernel
theorem dX12_isNew_2 : decode cX12_isNew 2 = .ok (.iconst 0, 1) := by decide +kernel
theorem dX12_isNew_3 : decode cX12_isNew 3 = .ok (.istore_n 3, 1) := by decide +kernel
theorem dX12_isNew_4 : decode cX12_isNew 4 = .ok (.iload_n 3, 1) := by decide +kernel
theorem dX12_isNew_5 : decode cX12_isNew 5 = .ok (.iload_n 1, 1) := by decide +kernel
theorem dX12_isNew_6 : decode cX12_isNew 6 = .ok (.if_icmp .ge 34, 3) := by decide +kernel
theorem dX12_isNew_9 : decode cX12_isNew 9 = .ok (.iload_n 2, 1) := by decide +kernel
theorem dX12_isNew_10 : decode cX12_isNew 10 = .ok (.ifCond .eq 22, 3) := by decide +kernel
theorem dX12_isNew_13 : decode cX12_isNew 13 = .ok (.aload_n 0, 1) := by decide +kernel
theorem dX12_isNew_14 : decode cX12_isNew 14 = .ok (.getfield 65, 3) := by decide +kernel
theorem dX12_isNew_17 : decode cX12_isNew 17 = .ok (.iload_n 3, 1) := by decide +kernel
theorem dX12_isNew_18 : decode cX12_isNew 18 = .ok (.iaload, 1) := by decide +kernel
theorem dX12_isNew_19 : decode cX12_isNew 19 = .ok (.aload_n 0, 1) := by decide +kernel
theorem dX12_isNew_20 : decode cX12_isNew 20 = .ok (.getfield 65, 3) := by decide +kernel
theorem dX12_isNew_23 : decode cX12_isNew 23 = .ok (.iload_n 1, 1) := by decide +kernel
theorem dX12_isNew_24 : decode cX12_isNew 24 = .ok (.iaload, 1) := by decide +kernel
theorem dX12_isNew_25 : decode cX12_isNew 25 = .ok (.if_icmp .eq 7, 3) := by decide +kernel
theorem dX12_isNew_28 : decode cX12_isNew 28 = .ok (.iconst 1, 1) := by decide +kernel
theorem dX12_isNew_29 : decode cX12_isNew 29 = .ok (.goto 4, 3) := by decide +kernel
theorem dX12_isNew_32 : decode cX12_isNew 32 = .ok (.iconst 0, 1) := by decide +kernel
theorem dX12_isNew_33 : decode cX12_isNew 33 = .ok (.istore_n 2, 1) := by decide +kernel
theorem dX12_isNew_34 : decode cX12_isNew 34 = .ok (.iinc 3 1, 3) := by decide +kernel
theorem dX12_isNew_37 : decode cX12_isNew 37 = .ok (.goto (-33), 3) := by decide +kernel
theorem dX12_isNew_40 : decode cX12_isNew 40 = .ok (.iload_n 2, 1) := by decide +kernel
theorem dX12_isNew_41 : decode cX12_isNew 41 = .ok (.ireturn, 1) := by decide +kernel
theorem dX12_noRow_0 : decode cX12_noRow 0 = .ok (.iconst 0, 1) := by decide +kernel
theorem dX12_noRow_1 : decode cX12_noRow 1 = .ok (.istore_n 1, 1) := by decide +kernel
theorem dX12_noRow_2 : decode cX12_noRow 2 = .ok (.iload_n 1, 1) := by decide +kernel
theorem dX12_noRow_3 : decode cX12_noRow 3 = .ok (.iconst 4, 1) := by decide +kernel
theorem dX12_noRow_4 : decode cX12_noRow 4 = .ok (.if_icmp .ge 16, 3) := by decide +kernel
theorem dX12_noRow_7 : decode cX12_noRow 7 = .ok (.aload_n 0, 1) := by decide +kernel
theorem dX12_noRow_8 : decode cX12_noRow 8 = .ok (.getfield 65, 3) := by decide +kernel
theorem dX12_noRow_11 : decode cX12_noRow 11 = .ok (.iload_n 1, 1) := by decide +kernel
theorem dX12_noRow_12 : decode cX12_noRow 12 = .ok (.iconst (-1), 1) := by decide +kernel
theorem dX12_noRow_13 : decode cX12_noRow 13 = .ok (.iastore, 1) := by decide +kernel
theorem dX12_noRow_14 : decode cX12_noRow 14 = .ok (.iinc 1 1, 3) := by decide +kernel
theorem dX12_noRow_17 : decode cX12_noRow 17 = .ok (.goto (-15), 3) := by decide +kernel
theorem dX12_noRow_20 : decode cX12_noRow 20 = .ok (.return_, 1) := by decide +kernel
theorem dX12_beginRow_0 : decode cX12_beginRow 0 = .ok (.aload_n 0, 1) := by decide +kernel
theorem dX12_beginRow_1 : decode cX12_beginRow 1 = .ok (.invokevirtual 375, 3) := by decide +kernel
theorem dX12_beginRow_4 : decode cX12_beginRow 4 = .ok (.iconst 0, 1) := by decide +kernel
theorem dX12_beginRow_5 : decode cX12_beginRow 5 = .ok (.istore_n 2, 1) := by decide +kernel
theorem dX12_beginRow_6 : decode cX12_beginRow 6 = .ok (.iload_n 2, 1) := by decide +kernel
theorem dX12_beginRow_7 : decode cX12_beginRow 7 = .ok (.iload_n 1, 1) := by decide +kernel
theorem dX12_beginRow_8 : decode cX12_beginRow 8 = .ok (.iconst 1, 1) := by decide +kernel
theorem dX12_beginRow_9 : decode cX12_beginRow 9 = .ok (.isub, 1) := by decide +kernel
theorem dX12_beginRow_10 : decode cX12_beginRow 10 = .ok (.if_icmp .ge 16, 3) := by decide +kernel
theorem dX12_beginRow_13 : decode cX12_beginRow 13 = .ok (.aload_n 0, 1) := by decide +kernel
theorem dX12_beginRow_14 : decode cX12_beginRow 14 = .ok (.getfield 65, 3) := by decide +kernel
theorem dX12_beginRow_17 : decode cX12_beginRow 17 = .ok (.iload_n 2, 1) := by decide +kernel
theorem dX12_beginRow_18 : decode cX12_beginRow 18 = .ok (.iload_n 2, 1) := by decide +kernel
theorem dX12_beginRow_19 : decode cX12_beginRow 19 = .ok (.iastore, 1) := by decide +kernel
theorem dX12_beginRow_20 : decode cX12_beginRow 20 = .ok (.iinc 2 1, 3) := by decide +kernel
theorem dX12_beginRow_23 : decode cX12_beginRow 23 = .ok (.goto (-17), 3) := by decide +kernel
theorem dX12_beginRow_26 : decode cX12_beginRow 26 = .ok (.aload_n 0, 1) := by decide +kernel
theorem dX12_beginRow_27 : decode cX12_beginRow 27 = .ok (.getfield 65, 3) := by decide +kernel
theorem dX12_beginRow_30 : decode cX12_beginRow 30 = .ok (.iload_n 1, 1) := by decide +kernel
theorem dX12_beginRow_31 : decode cX12_beginRow 31 = .ok (.iconst 1, 1) := by decide +kernel
theorem dX12_beginRow_32 : decode cX12_beginRow 32 = .ok (.isub, 1) := by decide +kernel
theorem dX12_beginRow_33 : decode cX12_beginRow 33 = .ok (.iconst (-1), 1) := by decide +kernel
theorem dX12_beginRow_34 : decode cX12_beginRow 34 = .ok (.iastore, 1) := by decide +kernel
theorem dX12_beginRow_35 : decode cX12_beginRow 35 = .ok (.return_, 1) := by decide +kernel
theorem dX12_drivers_0 : decode cX12_drivers 0 = .ok (.lconst 1, 1) := by decide +kernel
theorem dX12_drivers_1 : decode cX12_drivers 1 = .ok (.lstore_n 2, 1) := by decide +kernel
theorem dX12_drivers_2 : decode cX12_drivers 2 = .ok (.iconst 0, 1) := by decide +kernel
theorem dX12_drivers_3 : decode cX12_drivers 3 = .ok (.istore 4, 2) := by decide +kernel
theorem dX12_drivers_5 : decode cX12_drivers 5 = .ok (.iload 4, 2) := by decide +kernel
theorem dX12_drivers_7 : decode cX12_drivers 7 = .ok (.iload_n 1, 1) := by decide +kernel
theorem dX12_drivers_8 : decode cX12_drivers 8 = .ok (.if_icmp .ge 28, 3) := by decide +kernel
theorem dX12_drivers_11 : decode cX12_drivers 11 = .ok (.lload_n 2, 1) := by decide +kernel
theorem dX12_drivers_12 : decode cX12_drivers 12 = .ok (.aload_n 0, 1) := by decide +kernel
theorem dX12_drivers_13 : decode cX12_drivers 13 = .ok (.getfield 13, 3) := by decide +kernel
theorem dX12_drivers_16 : decode cX12_drivers 16 = .ok (.bipush 82, 2) := by decide +kernel
theorem dX12_drivers_18 : decode cX12_drivers 18 = .ok (.aload_n 0, 1) := by decide +kernel
theorem dX12_drivers_19 : decode cX12_drivers 19 = .ok (.getfield 65, 3) := by decide +kernel
theorem dX12_drivers_22 : decode cX12_drivers 22 = .ok (.iload 4, 2) := by decide +kernel
theorem dX12_drivers_24 : decode cX12_drivers 24 = .ok (.iaload, 1) := by decide +kernel
theorem dX12_drivers_25 : decode cX12_drivers 25 = .ok (.iadd, 1) := by decide +kernel
theorem dX12_drivers_26 : decode cX12_drivers 26 = .ok (.iaload, 1) := by decide +kernel
theorem dX12_drivers_27 : decode cX12_drivers 27 = .ok (.i2l, 1) := by decide +kernel
theorem dX12_drivers_28 : decode cX12_drivers 28 = .ok (.lmul, 1) := by decide +kernel
theorem dX12_drivers_29 : decode cX12_drivers 29 = .ok (.lstore_n 2, 1) := by decide +kernel
theorem dX12_drivers_30 : decode cX12_drivers 30 = .ok (.iinc 4 2, 3) := by decide +kernel
theorem dX12_drivers_33 : decode cX12_drivers 33 = .ok (.goto (-28), 3) := by decide +kernel
theorem dX12_drivers_36 : decode cX12_drivers 36 = .ok (.lload_n 2, 1) := by decide +kernel
theorem dX12_drivers_37 : decode cX12_drivers 37 = .ok (.lreturn, 1) := by decide +kernel
theorem dX12_drivens_0 : decode cX12_drivens 0 = .ok (.lconst 1, 1) := by decide +kernel
theorem dX12_drivens_1 : decode cX12_drivens 1 = .ok (.lstore_n 2, 1) := by decide +kernel
theorem dX12_drivens_2 : decode cX12_drivens 2 = .ok (.iconst 1, 1) := by decide +kernel
theorem dX12_drivens_3 : decode cX12_drivens 3 = .ok (.istore 4, 2) := by decide +kernel
theorem dX12_drivens_5 : decode cX12_drivens 5 = .ok (.iload 4, 2) := by decide +kernel
theorem dX12_drivens_7 : decode cX12_drivens 7 = .ok (.iload_n 1, 1) := by decide +kernel
theorem dX12_drivens_8 : decode cX12_drivens 8 = .ok (.if_icmp .ge 28, 3) := by decide +kernel
theorem dX12_drivens_11 : decode cX12_drivens 11 = .ok (.lload_n 2, 1) := by decide +kernel
theorem dX12_drivens_12 : decode cX12_drivens 12 = .ok (.aload_n 0, 1) := by decide +kernel
theorem dX12_drivens_13 : decode cX12_drivens 13 = .ok (.getfield 13, 3) := by decide +kernel
theorem dX12_drivens_16 : decode cX12_drivens 16 = .ok (.bipush 82, 2) := by decide +kernel
theorem dX12_drivens_18 : decode cX12_drivens 18 = .ok (.aload_n 0, 1) := by decide +kernel
theorem dX12_drivens_19 : decode cX12_drivens 19 = .ok (.getfield 65, 3) := by decide +kernel
theorem dX12_drivens_22 : decode cX12_drivens 22 = .ok (.iload 4, 2) := by decide +kernel
theorem dX12_drivens_24 : decode cX12_drivens 24 = .ok (.iaload, 1) := by decide +kernel
theorem dX12_drivens_25 : decode cX12_drivens 25 = .ok (.iadd, 1) := by decide +kernel
theorem dX12_drivens_26 : decode cX12_drivens 26 = .ok (.iaload, 1) := by decide +kernel
theorem dX12_drivens_27 : decode cX12_drivens 27 = .ok (.i2l, 1) := by decide +kernel
theorem dX12_drivens_28 : decode cX12_drivens 28 = .ok (.lmul, 1) := by decide +kernel
theorem dX12_drivens_29 : decode cX12_drivens 29 = .ok (.lstore_n 2, 1) := by decide +kernel
theorem dX12_drivens_30 : decode cX12_drivens 30 = .ok (.iinc 4 2, 3) := by decide +kernel
theorem dX12_drivens_33 : decode cX12_drivens 33 = .ok (.goto (-28), 3) := by decide +kernel
theorem dX12_drivens_36 : decode cX12_drivens 36 = .ok (.lload_n 2, 1) := by decide +kernel
theorem dX12_drivens_37 : decode cX12_drivens 37 = .ok (.lreturn, 1) := by decide +kernel
theorem dX12_keepRow_0 : decode cX12_keepRow 0 = .ok (.iconst 0, 1) := by decide +kernel
theorem dX12_keepRow_1 : decode cX12_keepRow 1 = .ok (.istore_n 1, 1) := by decide +kernel
theorem dX12_keepRow_2 : decode cX12_keepRow 2 = .ok (.iload_n 1, 1) := by decide +kernel
theorem dX12_keepRow_3 : decode cX12_keepRow 3 = .ok (.iconst 4, 1) := by decide +kernel
theorem dX12_keepRow_4 : decode cX12_keepRow 4 = .ok (.if_icmp .ge 21, 3) := by decide +kernel
theorem dX12_keepRow_7 : decode cX12_keepRow 7 = .ok (.aload_n 0, 1) := by decide +kernel
theorem dX12_keepRow_8 : decode cX12_keepRow 8 = .ok (.getfield 68, 3) := by decide +kernel
theorem dX12_keepRow_11 : decode cX12_keepRow 11 = .ok (.iload_n 1, 1) := by decide +kernel
theorem dX12_keepRow_12 : decode cX12_keepRow 12 = .ok (.aload_n 0, 1) := by decide +kernel
theorem dX12_keepRow_13 : decode cX12_keepRow 13 = .ok (.getfield 65, 3) := by decide +kernel
theorem dX12_keepRow_16 : decode cX12_keepRow 16 = .ok (.iload_n 1, 1) := by decide +kernel
theorem dX12_keepRow_17 : decode cX12_keepRow 17 = .ok (.iaload, 1) := by decide +kernel
theorem dX12_keepRow_18 : decode cX12_keepRow 18 = .ok (.iastore, 1) := by decide +kernel
theorem dX12_keepRow_19 : decode cX12_keepRow 19 = .ok (.iinc 1 1, 3) := by decide +kernel
theorem dX12_keepRow_22 : decode cX12_keepRow 22 = .ok (.goto (-20), 3) := by decide +kernel
theorem dX12_keepRow_25 : decode cX12_keepRow 25 = .ok (.return_, 1) := by decide +kernel
theorem dX12_findNearest_0 : decode cX12_findNearest 0 = .ok (.aload_n 0, 1) := by decide +kernel
theorem dX12_findNearest_1 : decode cX12_findNearest 1 = .ok (.iconst 0, 1) := by decide +kernel
theorem dX12_findNearest_2 : decode cX12_findNearest 2 = .ok (.putfield 378, 3) := by decide +kernel
theorem dX12_findNearest_5 : decode cX12_findNearest 5 = .ok (.iconst 2, 1) := by decide +kernel
theorem dX12_findNearest_6 : decode cX12_findNearest 6 = .ok (.istore_n 3, 1) := by decide +kernel
theorem dX12_findNearest_7 : decode cX12_findNearest 7 = .ok (.iload_n 3, 1) := by decide +kernel
theorem dX12_findNearest_8 : decode cX12_findNearest 8 = .ok (.iconst 5, 1) := by decide +kernel
theorem dX12_findNearest_9 : decode cX12_findNearest 9 = .ok (.if_icmp .ge 121, 3) := by decide +kernel
theorem dX12_findNearest_12 : decode cX12_findNearest 12 = .ok (.iload_n 3, 1) := by decide +kernel
theorem dX12_findNearest_13 : decode cX12_findNearest 13 = .ok (.aload_n 0, 1) := by decide +kernel
theorem dX12_findNearest_14 : decode cX12_findNearest 14 = .ok (.getfield 13, 3) := by decide +kernel
theorem dX12_findNearest_17 : decode cX12_findNearest 17 = .ok (.iconst 1, 1) := by decide +kernel
theorem dX12_findNearest_18 : decode cX12_findNearest 18 = .ok (.iaload, 1) := by decide +kernel
theorem dX12_findNearest_19 : decode cX12_findNearest 19 = .ok (.if_icmp .gt 111, 3) := by decide +kernel
theorem dX12_findNearest_22 : decode cX12_findNearest 22 = .ok (.aload_n 0, 1) := by decide +kernel
theorem dX12_findNearest_23 : decode cX12_findNearest 23 = .ok (.iload_n 3, 1) := by decide +kernel
theorem dX12_findNearest_24 : decode cX12_findNearest 24 = .ok (.invokevirtual 381, 3) := by decide +kernel
theorem dX12_findNearest_27 : decode cX12_findNearest 27 = .ok (.aload_n 0, 1) := by decide +kernel
theorem dX12_findNearest_28 : decode cX12_findNearest 28 = .ok (.iload_n 3, 1) := by decide +kernel
theorem dX12_findNearest_29 : decode cX12_findNearest 29 = .ok (.invokevirtual 384, 3) := by decide +kernel
theorem dX12_findNearest_32 : decode cX12_findNearest 32 = .ok (.ifCond .eq 92, 3) := by decide +kernel
theorem dX12_findNearest_35 : decode cX12_findNearest 35 = .ok (.aload_n 0, 1) := by decide +kernel
theorem dX12_findNearest_36 : decode cX12_findNearest 36 = .ok (.iload_n 3, 1) := by decide +kernel
theorem dX12_findNearest_37 : decode cX12_findNearest 37 = .ok (.invokevirtual 387, 3) := by decide +kernel
theorem dX12_findNearest_40 : decode cX12_findNearest 40 = .ok (.iload_n 2, 1) := by decide +kernel
theorem dX12_findNearest_41 : decode cX12_findNearest 41 = .ok (.i2l, 1) := by decide +kernel
theorem dX12_findNearest_42 : decode cX12_findNearest 42 = .ok (.lmul, 1) := by decide +kernel
theorem dX12_findNearest_43 : decode cX12_findNearest 43 = .ok (.lstore 4, 2) := by decide +kernel
theorem dX12_findNearest_45 : decode cX12_findNearest 45 = .ok (.aload_n 0, 1) := by decide +kernel
theorem dX12_findNearest_46 : decode cX12_findNearest 46 = .ok (.iload_n 3, 1) := by decide +kernel
theorem dX12_findNearest_47 : decode cX12_findNearest 47 = .ok (.invokevirtual 390, 3) := by decide +kernel
theorem dX12_findNearest_50 : decode cX12_findNearest 50 = .ok (.iload_n 2, 1) := by decide +kernel
theorem dX12_findNearest_51 : decode cX12_findNearest 51 = .ok (.i2l, 1) := by decide +kernel
theorem dX12_findNearest_52 : decode cX12_findNearest 52 = .ok (.lmul, 1) := by decide +kernel
theorem dX12_findNearest_53 : decode cX12_findNearest 53 = .ok (.aload_n 0, 1) := by decide +kernel
theorem dX12_findNearest_54 : decode cX12_findNearest 54 = .ok (.iload_n 3, 1) := by decide +kernel
theorem dX12_findNearest_55 : decode cX12_findNearest 55 = .ok (.invokevirtual 387, 3) := by decide +kernel
theorem dX12_findNearest_58 : decode cX12_findNearest 58 = .ok (.iload_n 1, 1) := by decide +kernel
theorem dX12_findNearest_59 : decode cX12_findNearest 59 = .ok (.i2l, 1) := by decide +kernel
theorem dX12_findNearest_60 : decode cX12_findNearest 60 = .ok (.lmul, 1) := by decide +kernel
theorem dX12_findNearest_61 : decode cX12_findNearest 61 = .ok (.lsub, 1) := by decide +kernel
theorem dX12_findNearest_62 : decode cX12_findNearest 62 = .ok (.invokestatic 366, 3) := by decide +kernel
theorem dX12_findNearest_65 : decode cX12_findNearest 65 = .ok (.lstore 6, 2) := by decide +kernel
theorem dX12_findNearest_67 : decode cX12_findNearest 67 = .ok (.aload_n 0, 1) := by decide +kernel
theorem dX12_findNearest_68 : decode cX12_findNearest 68 = .ok (.getfield 378, 3) := by decide +kernel
theorem dX12_findNearest_71 : decode cX12_findNearest 71 = .ok (.ifCond .eq 27, 3) := by decide +kernel
theorem dX12_findNearest_74 : decode cX12_findNearest 74 = .ok (.lload 6, 2) := by decide +kernel
theorem dX12_findNearest_76 : decode cX12_findNearest 76 = .ok (.aload_n 0, 1) := by decide +kernel
theorem dX12_findNearest_77 : decode cX12_findNearest 77 = .ok (.getfield 393, 3) := by decide +kernel
theorem dX12_findNearest_80 : decode cX12_findNearest 80 = .ok (.iload_n 2, 1) := by decide +kernel
theorem dX12_findNearest_81 : decode cX12_findNearest 81 = .ok (.i2l, 1) := by decide +kernel
theorem dX12_findNearest_82 : decode cX12_findNearest 82 = .ok (.ldiv, 1) := by decide +kernel
theorem dX12_findNearest_83 : decode cX12_findNearest 83 = .ok (.lmul, 1) := by decide +kernel
theorem dX12_findNearest_84 : decode cX12_findNearest 84 = .ok (.aload_n 0, 1) := by decide +kernel
theorem dX12_findNearest_85 : decode cX12_findNearest 85 = .ok (.getfield 396, 3) := by decide +kernel
theorem dX12_findNearest_88 : decode cX12_findNearest 88 = .ok (.lload 4, 2) := by decide +kernel
theorem dX12_findNearest_90 : decode cX12_findNearest 90 = .ok (.iload_n 2, 1) := by decide +kernel
theorem dX12_findNearest_91 : decode cX12_findNearest 91 = .ok (.i2l, 1) := by decide +kernel
theorem dX12_findNearest_92 : decode cX12_findNearest 92 = .ok (.ldiv, 1) := by decide +kernel
theorem dX12_findNearest_93 : decode cX12_findNearest 93 = .ok (.lmul, 1) := by decide +kernel
theorem dX12_findNearest_94 : decode cX12_findNearest 94 = .ok (.lcmp, 1) := by decide +kernel
theorem dX12_findNearest_95 : decode cX12_findNearest 95 = .ok (.ifCond .ge 26, 3) := by decide +kernel
theorem dX12_findNearest_98 : decode cX12_findNearest 98 = .ok (.aload_n 0, 1) := by decide +kernel
theorem dX12_findNearest_99 : decode cX12_findNearest 99 = .ok (.iload_n 3, 1) := by decide +kernel
theorem dX12_findNearest_100 : decode cX12_findNearest 100 = .ok (.iconst 2, 1) := by decide +kernel
theorem dX12_findNearest_101 : decode cX12_findNearest 101 = .ok (.idiv, 1) := by decide +kernel
theorem dX12_findNearest_102 : decode cX12_findNearest 102 = .ok (.putfield 378, 3) := by decide +kernel
theorem dX12_findNearest_105 : decode cX12_findNearest 105 = .ok (.aload_n 0, 1) := by decide +kernel
theorem dX12_findNearest_106 : decode cX12_findNearest 106 = .ok (.lload 6, 2) := by decide +kernel
theorem dX12_findNearest_108 : decode cX12_findNearest 108 = .ok (.putfield 396, 3) := by decide +kernel
theorem dX12_findNearest_111 : decode cX12_findNearest 111 = .ok (.aload_n 0, 1) := by decide +kernel
theorem dX12_findNearest_112 : decode cX12_findNearest 112 = .ok (.lload 4, 2) := by decide +kernel
theorem dX12_findNearest_114 : decode cX12_findNearest 114 = .ok (.putfield 393, 3) := by decide +kernel
theorem dX12_findNearest_117 : decode cX12_findNearest 117 = .ok (.aload_n 0, 1) := by decide +kernel
theorem dX12_findNearest_118 : decode cX12_findNearest 118 = .ok (.invokevirtual 399, 3) := by decide +kernel
theorem dX12_findNearest_121 : decode cX12_findNearest 121 = .ok (.goto (-94), 3) := by decide +kernel
theorem dX12_findNearest_124 : decode cX12_findNearest 124 = .ok (.iinc 3 2, 3) := by decide +kernel
theorem dX12_findNearest_127 : decode cX12_findNearest 127 = .ok (.goto (-120), 3) := by decide +kernel
theorem dX12_findNearest_130 : decode cX12_findNearest 130 = .ok (.return_, 1) := by decide +kernel
theorem dX12_canNear_0 : decode cX12_canNear 0 = .ok (.iload_n 1, 1) := by decide +kernel
theorem dX12_canNear_1 : decode cX12_canNear 1 = .ok (.iload_n 2, 1) := by decide +kernel
theorem dX12_canNear_2 : decode cX12_canNear 2 = .ok (.invokestatic 363, 3) := by decide +kernel
theorem dX12_canNear_5 : decode cX12_canNear 5 = .ok (.ifCond .eq 17, 3) := by decide +kernel
theorem dX12_canNear_8 : decode cX12_canNear 8 = .ok (.aload_n 0, 1) := by decide +kernel
theorem dX12_canNear_9 : decode cX12_canNear 9 = .ok (.getfield 13, 3) := by decide +kernel
theorem dX12_canNear_12 : decode cX12_canNear 12 = .ok (.iconst 1, 1) := by decide +kernel
theorem dX12_canNear_13 : decode cX12_canNear 13 = .ok (.iaload, 1) := by decide +kernel
theorem dX12_canNear_14 : decode cX12_canNear 14 = .ok (.iconst 1, 1) := by decide +kernel
theorem dX12_canNear_15 : decode cX12_canNear 15 = .ok (.if_icmp .le 7, 3) := by decide +kernel
theorem dX12_canNear_18 : decode cX12_canNear 18 = .ok (.iconst 1, 1) := by decide +kernel
theorem dX12_canNear_19 : decode cX12_canNear 19 = .ok (.goto 4, 3) := by decide +kernel
theorem dX12_canNear_22 : decode cX12_canNear 22 = .ok (.iconst 0, 1) := by decide +kernel
theorem dX12_canNear_23 : decode cX12_canNear 23 = .ok (.ireturn, 1) := by decide +kernel
theorem dX12_nearest_0 : decode cX12_nearest 0 = .ok (.aload_n 0, 1) := by decide +kernel
theorem dX12_nearest_1 : decode cX12_nearest 1 = .ok (.iconst 0, 1) := by decide +kernel
theorem dX12_nearest_2 : decode cX12_nearest 2 = .ok (.putfield 88, 3) := by decide +kernel
theorem dX12_nearest_5 : decode cX12_nearest 5 = .ok (.aload_n 0, 1) := by decide +kernel
theorem dX12_nearest_6 : decode cX12_nearest 6 = .ok (.iload_n 1, 1) := by decide +kernel
theorem dX12_nearest_7 : decode cX12_nearest 7 = .ok (.iload_n 2, 1) := by decide +kernel
theorem dX12_nearest_8 : decode cX12_nearest 8 = .ok (.invokevirtual 402, 3) := by decide +kernel
theorem dX12_nearest_11 : decode cX12_nearest 11 = .ok (.ifCond .eq 15, 3) := by decide +kernel
theorem dX12_nearest_14 : decode cX12_nearest 14 = .ok (.iload_n 3, 1) := by decide +kernel
theorem dX12_nearest_15 : decode cX12_nearest 15 = .ok (.i2l, 1) := by decide +kernel
theorem dX12_nearest_16 : decode cX12_nearest 16 = .ok (.lconst 0, 1) := by decide +kernel
theorem dX12_nearest_17 : decode cX12_nearest 17 = .ok (.ldc2_w 405, 3) := by decide +kernel
theorem dX12_nearest_20 : decode cX12_nearest 20 = .ok (.invokestatic 98, 3) := by decide +kernel
theorem dX12_nearest_23 : decode cX12_nearest 23 = .ok (.ifCond .ne 5, 3) := by decide +kernel
theorem dX12_nearest_26 : decode cX12_nearest 26 = .ok (.iconst (-1), 1) := by decide +kernel
theorem dX12_nearest_27 : decode cX12_nearest 27 = .ok (.ireturn, 1) := by decide +kernel
theorem dX12_nearest_28 : decode cX12_nearest 28 = .ok (.aload_n 0, 1) := by decide +kernel
theorem dX12_nearest_29 : decode cX12_nearest 29 = .ok (.iload_n 1, 1) := by decide +kernel
theorem dX12_nearest_30 : decode cX12_nearest 30 = .ok (.iload_n 2, 1) := by decide +kernel
theorem dX12_nearest_31 : decode cX12_nearest 31 = .ok (.invokevirtual 407, 3) := by decide +kernel
theorem dX12_nearest_34 : decode cX12_nearest 34 = .ok (.iload_n 3, 1) := by decide +kernel
theorem dX12_nearest_35 : decode cX12_nearest 35 = .ok (.ifCond .ne 10, 3) := by decide +kernel
theorem dX12_nearest_38 : decode cX12_nearest 38 = .ok (.aload_n 0, 1) := by decide +kernel
theorem dX12_nearest_39 : decode cX12_nearest 39 = .ok (.getfield 378, 3) := by decide +kernel
theorem dX12_nearest_42 : decode cX12_nearest 42 = .ok (.goto 25, 3) := by decide +kernel
theorem dX12_nearest_45 : decode cX12_nearest 45 = .ok (.iload_n 3, 1) := by decide +kernel
theorem dX12_nearest_46 : decode cX12_nearest 46 = .ok (.iconst 2, 1) := by decide +kernel
theorem dX12_nearest_47 : decode cX12_nearest 47 = .ok (.aload_n 0, 1) := by decide +kernel
theorem dX12_nearest_48 : decode cX12_nearest 48 = .ok (.getfield 378, 3) := by decide +kernel
theorem dX12_nearest_51 : decode cX12_nearest 51 = .ok (.imul, 1) := by decide +kernel
theorem dX12_nearest_52 : decode cX12_nearest 52 = .ok (.if_icmp .gt 14, 3) := by decide +kernel
theorem dX12_nearest_55 : decode cX12_nearest 55 = .ok (.aload_n 0, 1) := by decide +kernel
theorem dX12_nearest_56 : decode cX12_nearest 56 = .ok (.getfield 68, 3) := by decide +kernel
theorem dX12_nearest_59 : decode cX12_nearest 59 = .ok (.iload_n 3, 1) := by decide +kernel
theorem dX12_nearest_60 : decode cX12_nearest 60 = .ok (.iconst 1, 1) := by decide +kernel
theorem dX12_nearest_61 : decode cX12_nearest 61 = .ok (.isub, 1) := by decide +kernel
theorem dX12_nearest_62 : decode cX12_nearest 62 = .ok (.iaload, 1) := by decide +kernel
theorem dX12_nearest_63 : decode cX12_nearest 63 = .ok (.goto 4, 3) := by decide +kernel
theorem dX12_nearest_66 : decode cX12_nearest 66 = .ok (.iconst (-1), 1) := by decide +kernel
theorem dX12_nearest_67 : decode cX12_nearest 67 = .ok (.ireturn, 1) := by decide +kernel
theorem dX12_near_0 : decode cX12_near 0 = .ok (.aload_n 0, 1) := by decide +kernel
theorem dX12_near_1 : decode cX12_near 1 = .ok (.iconst 0, 1) := by decide +kernel
theorem dX12_near_2 : decode cX12_near 2 = .ok (.putfield 88, 3) := by decide +kernel
theorem dX12_near_5 : decode cX12_near 5 = .ok (.aload_n 0, 1) := by decide +kernel
theorem dX12_near_6 : decode cX12_near 6 = .ok (.iload_n 1, 1) := by decide +kernel
theorem dX12_near_7 : decode cX12_near 7 = .ok (.iload_n 2, 1) := by decide +kernel
theorem dX12_near_8 : decode cX12_near 8 = .ok (.invokevirtual 402, 3) := by decide +kernel
theorem dX12_near_11 : decode cX12_near 11 = .ok (.ifCond .eq 13, 3) := by decide +kernel
theorem dX12_near_14 : decode cX12_near 14 = .ok (.iload_n 3, 1) := by decide +kernel
theorem dX12_near_15 : decode cX12_near 15 = .ok (.i2l, 1) := by decide +kernel
theorem dX12_near_16 : decode cX12_near 16 = .ok (.lconst 0, 1) := by decide +kernel
theorem dX12_near_17 : decode cX12_near 17 = .ok (.lconst 1, 1) := by decide +kernel
theorem dX12_near_18 : decode cX12_near 18 = .ok (.invokestatic 98, 3) := by decide +kernel
theorem dX12_near_21 : decode cX12_near 21 = .ok (.ifCond .ne 7, 3) := by decide +kernel
theorem dX12_near_24 : decode cX12_near 24 = .ok (.ldc2_w 178, 3) := by decide +kernel
theorem dX12_near_27 : decode cX12_near 27 = .ok (.lreturn, 1) := by decide +kernel
theorem dX12_near_28 : decode cX12_near 28 = .ok (.aload_n 0, 1) := by decide +kernel
theorem dX12_near_29 : decode cX12_near 29 = .ok (.iload_n 1, 1) := by decide +kernel
theorem dX12_near_30 : decode cX12_near 30 = .ok (.iload_n 2, 1) := by decide +kernel
theorem dX12_near_31 : decode cX12_near 31 = .ok (.invokevirtual 407, 3) := by decide +kernel
theorem dX12_near_34 : decode cX12_near 34 = .ok (.aload_n 0, 1) := by decide +kernel
theorem dX12_near_35 : decode cX12_near 35 = .ok (.getfield 396, 3) := by decide +kernel
theorem dX12_near_38 : decode cX12_near 38 = .ok (.aload_n 0, 1) := by decide +kernel
theorem dX12_near_39 : decode cX12_near 39 = .ok (.getfield 393, 3) := by decide +kernel
theorem dX12_near_42 : decode cX12_near 42 = .ok (.iload_n 3, 1) := by decide +kernel
theorem dX12_near_43 : decode cX12_near 43 = .ok (.invokestatic 341, 3) := by decide +kernel
theorem dX12_near_46 : decode cX12_near 46 = .ok (.lreturn, 1) := by decide +kernel
theorem dX12_mount_0 : decode cX12_mount 0 = .ok (.aload_n 0, 1) := by decide +kernel
theorem dX12_mount_1 : decode cX12_mount 1 = .ok (.iconst 0, 1) := by decide +kernel
theorem dX12_mount_2 : decode cX12_mount 2 = .ok (.putfield 88, 3) := by decide +kernel
theorem dX12_mount_5 : decode cX12_mount 5 = .ok (.iload_n 2, 1) := by decide +kernel
theorem dX12_mount_6 : decode cX12_mount 6 = .ok (.iload_n 3, 1) := by decide +kernel
theorem dX12_mount_7 : decode cX12_mount 7 = .ok (.invokestatic 363, 3) := by decide +kernel
theorem dX12_mount_10 : decode cX12_mount 10 = .ok (.ifCond .ne 9, 3) := by decide +kernel
theorem dX12_mount_13 : decode cX12_mount 13 = .ok (.aload_n 0, 1) := by decide +kernel
theorem dX12_mount_14 : decode cX12_mount 14 = .ok (.iconst (-1), 1) := by decide +kernel
theorem dX12_mount_15 : decode cX12_mount 15 = .ok (.invokevirtual 102, 3) := by decide +kernel
theorem dX12_mount_18 : decode cX12_mount 18 = .ok (.ireturn, 1) := by decide +kernel
theorem dX12_mount_19 : decode cX12_mount 19 = .ok (.aload_n 0, 1) := by decide +kernel
theorem dX12_mount_20 : decode cX12_mount 20 = .ok (.iload_n 1, 1) := by decide +kernel
theorem dX12_mount_21 : decode cX12_mount 21 = .ok (.invokevirtual 111, 3) := by decide +kernel
theorem dX12_mount_24 : decode cX12_mount 24 = .ok (.ifCond .eq 13, 3) := by decide +kernel
theorem dX12_mount_27 : decode cX12_mount 27 = .ok (.aload_n 0, 1) := by decide +kernel
theorem dX12_mount_28 : decode cX12_mount 28 = .ok (.getfield 13, 3) := by decide +kernel
theorem dX12_mount_31 : decode cX12_mount 31 = .ok (.iconst 1, 1) := by decide +kernel
theorem dX12_mount_32 : decode cX12_mount 32 = .ok (.iaload, 1) := by decide +kernel
theorem dX12_mount_33 : decode cX12_mount 33 = .ok (.iconst 2, 1) := by decide +kernel
theorem dX12_mount_34 : decode cX12_mount 34 = .ok (.if_icmp .ge 10, 3) := by decide +kernel
theorem dX12_mount_37 : decode cX12_mount 37 = .ok (.aload_n 0, 1) := by decide +kernel
theorem dX12_mount_38 : decode cX12_mount 38 = .ok (.bipush (-2), 2) := by decide +kernel
theorem dX12_mount_40 : decode cX12_mount 40 = .ok (.invokevirtual 102, 3) := by decide +kernel
theorem dX12_mount_43 : decode cX12_mount 43 = .ok (.ireturn, 1) := by decide +kernel
theorem dX12_mount_44 : decode cX12_mount 44 = .ok (.aload_n 0, 1) := by decide +kernel
theorem dX12_mount_45 : decode cX12_mount 45 = .ok (.iload_n 2, 1) := by decide +kernel
theorem dX12_mount_46 : decode cX12_mount 46 = .ok (.iload_n 3, 1) := by decide +kernel
theorem dX12_mount_47 : decode cX12_mount 47 = .ok (.invokevirtual 407, 3) := by decide +kernel
theorem dX12_mount_50 : decode cX12_mount 50 = .ok (.aload_n 0, 1) := by decide +kernel
theorem dX12_mount_51 : decode cX12_mount 51 = .ok (.getfield 13, 3) := by decide +kernel
theorem dX12_mount_54 : decode cX12_mount 54 = .ok (.bipush 10, 2) := by decide +kernel
theorem dX12_mount_56 : decode cX12_mount 56 = .ok (.bipush 12, 2) := by decide +kernel
theorem dX12_mount_58 : decode cX12_mount 58 = .ok (.iload_n 1, 1) := by decide +kernel
theorem dX12_mount_59 : decode cX12_mount 59 = .ok (.imul, 1) := by decide +kernel
theorem dX12_mount_60 : decode cX12_mount 60 = .ok (.iadd, 1) := by decide +kernel
theorem dX12_mount_61 : decode cX12_mount 61 = .ok (.iconst 3, 1) := by decide +kernel
theorem dX12_mount_62 : decode cX12_mount 62 = .ok (.iadd, 1) := by decide +kernel
theorem dX12_mount_63 : decode cX12_mount 63 = .ok (.iconst 0, 1) := by decide +kernel
theorem dX12_mount_64 : decode cX12_mount 64 = .ok (.iastore, 1) := by decide +kernel
theorem dX12_mount_65 : decode cX12_mount 65 = .ok (.iconst 0, 1) := by decide +kernel
theorem dX12_mount_66 : decode cX12_mount 66 = .ok (.istore 4, 2) := by decide +kernel
theorem dX12_mount_68 : decode cX12_mount 68 = .ok (.iload 4, 2) := by decide +kernel
theorem dX12_mount_70 : decode cX12_mount 70 = .ok (.aload_n 0, 1) := by decide +kernel
theorem dX12_mount_71 : decode cX12_mount 71 = .ok (.getfield 378, 3) := by decide +kernel
theorem dX12_mount_74 : decode cX12_mount 74 = .ok (.if_icmp .ge 50, 3) := by decide +kernel
theorem dX12_mount_77 : decode cX12_mount 77 = .ok (.aload_n 0, 1) := by decide +kernel
theorem dX12_mount_78 : decode cX12_mount 78 = .ok (.iload_n 1, 1) := by decide +kernel
theorem dX12_mount_79 : decode cX12_mount 79 = .ok (.aload_n 0, 1) := by decide +kernel
theorem dX12_mount_80 : decode cX12_mount 80 = .ok (.getfield 13, 3) := by decide +kernel
theorem dX12_mount_83 : decode cX12_mount 83 = .ok (.bipush 82, 2) := by decide +kernel
theorem dX12_mount_85 : decode cX12_mount 85 = .ok (.aload_n 0, 1) := by decide +kernel
theorem dX12_mount_86 : decode cX12_mount 86 = .ok (.getfield 68, 3) := by decide +kernel
theorem dX12_mount_89 : decode cX12_mount 89 = .ok (.iconst 2, 1) := by decide +kernel
theorem dX12_mount_90 : decode cX12_mount 90 = .ok (.iload 4, 2) := by decide +kernel
theorem dX12_mount_92 : decode cX12_mount 92 = .ok (.imul, 1) := by decide +kernel
theorem dX12_mount_93 : decode cX12_mount 93 = .ok (.iaload, 1) := by decide +kernel
theorem dX12_mount_94 : decode cX12_mount 94 = .ok (.iadd, 1) := by decide +kernel
theorem dX12_mount_95 : decode cX12_mount 95 = .ok (.iaload, 1) := by decide +kernel
theorem dX12_mount_96 : decode cX12_mount 96 = .ok (.aload_n 0, 1) := by decide +kernel
theorem dX12_mount_97 : decode cX12_mount 97 = .ok (.getfield 13, 3) := by decide +kernel
theorem dX12_mount_100 : decode cX12_mount 100 = .ok (.bipush 82, 2) := by decide +kernel
theorem dX12_mount_102 : decode cX12_mount 102 = .ok (.aload_n 0, 1) := by decide +kernel
theorem dX12_mount_103 : decode cX12_mount 103 = .ok (.getfield 68, 3) := by decide +kernel
theorem dX12_mount_106 : decode cX12_mount 106 = .ok (.iconst 2, 1) := by decide +kernel
theorem dX12_mount_107 : decode cX12_mount 107 = .ok (.iload 4, 2) := by decide +kernel
theorem dX12_mount_109 : decode cX12_mount 109 = .ok (.imul, 1) := by decide +kernel
theorem dX12_mount_110 : decode cX12_mount 110 = .ok (.iconst 1, 1) := by decide +kernel
theorem dX12_mount_111 : decode cX12_mount 111 = .ok (.iadd, 1) := by decide +kernel
theorem dX12_mount_112 : decode cX12_mount 112 = .ok (.iaload, 1) := by decide +kernel
theorem dX12_mount_113 : decode cX12_mount 113 = .ok (.iadd, 1) := by decide +kernel
theorem dX12_mount_114 : decode cX12_mount 114 = .ok (.iaload, 1) := by decide +kernel
theorem dX12_mount_115 : decode cX12_mount 115 = .ok (.invokevirtual 129, 3) := by decide +kernel
theorem dX12_mount_118 : decode cX12_mount 118 = .ok (.iinc 4 1, 3) := by decide +kernel
theorem dX12_mount_121 : decode cX12_mount 121 = .ok (.goto (-53), 3) := by decide +kernel
theorem dX12_mount_124 : decode cX12_mount 124 = .ok (.aload_n 0, 1) := by decide +kernel
theorem dX12_mount_125 : decode cX12_mount 125 = .ok (.aload_n 0, 1) := by decide +kernel
theorem dX12_mount_126 : decode cX12_mount 126 = .ok (.getfield 378, 3) := by decide +kernel
theorem dX12_mount_129 : decode cX12_mount 129 = .ok (.invokevirtual 102, 3) := by decide +kernel
theorem dX12_mount_132 : decode cX12_mount 132 = .ok (.ireturn, 1) := by decide +kernel
theorem dX12_cam_0 : decode cX12_cam 0 = .ok (.aload_n 0, 1) := by decide +kernel
theorem dX12_cam_1 : decode cX12_cam 1 = .ok (.iconst 0, 1) := by decide +kernel
theorem dX12_cam_2 : decode cX12_cam 2 = .ok (.putfield 88, 3) := by decide +kernel
theorem dX12_cam_5 : decode cX12_cam 5 = .ok (.aload_n 0, 1) := by decide +kernel
theorem dX12_cam_6 : decode cX12_cam 6 = .ok (.iload_n 1, 1) := by decide +kernel
theorem dX12_cam_7 : decode cX12_cam 7 = .ok (.invokevirtual 111, 3) := by decide +kernel
theorem dX12_cam_10 : decode cX12_cam 10 = .ok (.ifCond .eq 17, 3) := by decide +kernel
theorem dX12_cam_13 : decode cX12_cam 13 = .ok (.iload_n 2, 1) := by decide +kernel
theorem dX12_cam_14 : decode cX12_cam 14 = .ok (.i2l, 1) := by decide +kernel
theorem dX12_cam_15 : decode cX12_cam 15 = .ok (.ldc2_w 410, 3) := by decide +kernel
theorem dX12_cam_18 : decode cX12_cam 18 = .ok (.ldc2_w 412, 3) := by decide +kernel
theorem dX12_cam_21 : decode cX12_cam 21 = .ok (.invokestatic 98, 3) := by decide +kernel
theorem dX12_cam_24 : decode cX12_cam 24 = .ok (.ifCond .ne 5, 3) := by decide +kernel
theorem dX12_cam_27 : decode cX12_cam 27 = .ok (.iconst (-1), 1) := by decide +kernel
theorem dX12_cam_28 : decode cX12_cam 28 = .ok (.ireturn, 1) := by decide +kernel
theorem dX12_cam_29 : decode cX12_cam 29 = .ok (.iconst 1, 1) := by decide +kernel
theorem dX12_cam_30 : decode cX12_cam 30 = .ok (.istore_n 3, 1) := by decide +kernel
theorem dX12_cam_31 : decode cX12_cam 31 = .ok (.iconst 0, 1) := by decide +kernel
theorem dX12_cam_32 : decode cX12_cam 32 = .ok (.istore 4, 2) := by decide +kernel
theorem dX12_cam_34 : decode cX12_cam 34 = .ok (.iload 4, 2) := by decide +kernel
theorem dX12_cam_36 : decode cX12_cam 36 = .ok (.iload_n 2, 1) := by decide +kernel
theorem dX12_cam_37 : decode cX12_cam 37 = .ok (.if_icmp .gt 46, 3) := by decide +kernel
theorem dX12_cam_40 : decode cX12_cam 40 = .ok (.aload_n 0, 1) := by decide +kernel
theorem dX12_cam_41 : decode cX12_cam 41 = .ok (.getfield 71, 3) := by decide +kernel
theorem dX12_cam_44 : decode cX12_cam 44 = .ok (.iload 4, 2) := by decide +kernel
theorem dX12_cam_46 : decode cX12_cam 46 = .ok (.aload_n 0, 1) := by decide +kernel
theorem dX12_cam_47 : decode cX12_cam 47 = .ok (.iload_n 1, 1) := by decide +kernel
theorem dX12_cam_48 : decode cX12_cam 48 = .ok (.iload 4, 2) := by decide +kernel
theorem dX12_cam_50 : decode cX12_cam 50 = .ok (.invokevirtual 321, 3) := by decide +kernel
theorem dX12_cam_53 : decode cX12_cam 53 = .ok (.iastore, 1) := by decide +kernel
theorem dX12_cam_54 : decode cX12_cam 54 = .ok (.iload_n 3, 1) := by decide +kernel
theorem dX12_cam_55 : decode cX12_cam 55 = .ok (.ifCond .eq 20, 3) := by decide +kernel
theorem dX12_cam_58 : decode cX12_cam 58 = .ok (.aload_n 0, 1) := by decide +kernel
theorem dX12_cam_59 : decode cX12_cam 59 = .ok (.getfield 71, 3) := by decide +kernel
theorem dX12_cam_62 : decode cX12_cam 62 = .ok (.iload 4, 2) := by decide +kernel
theorem dX12_cam_64 : decode cX12_cam 64 = .ok (.iaload, 1) := by decide +kernel
theorem dX12_cam_65 : decode cX12_cam 65 = .ok (.ldc_w 306, 3) := by decide +kernel
theorem dX12_cam_68 : decode cX12_cam 68 = .ok (.if_icmp .eq 7, 3) := by decide +kernel
theorem dX12_cam_71 : decode cX12_cam 71 = .ok (.iconst 1, 1) := by decide +kernel
theorem dX12_cam_72 : decode cX12_cam 72 = .ok (.goto 4, 3) := by decide +kernel
theorem dX12_cam_75 : decode cX12_cam 75 = .ok (.iconst 0, 1) := by decide +kernel
theorem dX12_cam_76 : decode cX12_cam 76 = .ok (.istore_n 3, 1) := by decide +kernel
theorem dX12_cam_77 : decode cX12_cam 77 = .ok (.iinc 4 1, 3) := by decide +kernel
theorem dX12_cam_80 : decode cX12_cam 80 = .ok (.goto (-46), 3) := by decide +kernel
theorem dX12_cam_83 : decode cX12_cam 83 = .ok (.iconst 1, 1) := by decide +kernel
theorem dX12_cam_84 : decode cX12_cam 84 = .ok (.istore 4, 2) := by decide +kernel
theorem dX12_cam_86 : decode cX12_cam 86 = .ok (.iload 4, 2) := by decide +kernel
theorem dX12_cam_88 : decode cX12_cam 88 = .ok (.bipush 100, 2) := by decide +kernel
theorem dX12_cam_90 : decode cX12_cam 90 = .ok (.if_icmp .ge 72, 3) := by decide +kernel
theorem dX12_cam_93 : decode cX12_cam 93 = .ok (.iload_n 3, 1) := by decide +kernel
theorem dX12_cam_94 : decode cX12_cam 94 = .ok (.ifCond .eq 68, 3) := by decide +kernel
theorem dX12_cam_97 : decode cX12_cam 97 = .ok (.iconst 1, 1) := by decide +kernel
theorem dX12_cam_98 : decode cX12_cam 98 = .ok (.istore 5, 2) := by decide +kernel
theorem dX12_cam_100 : decode cX12_cam 100 = .ok (.iload 4, 2) := by decide +kernel
theorem dX12_cam_102 : decode cX12_cam 102 = .ok (.istore 6, 2) := by decide +kernel
theorem dX12_cam_104 : decode cX12_cam 104 = .ok (.iload 6, 2) := by decide +kernel
theorem dX12_cam_106 : decode cX12_cam 106 = .ok (.iload_n 2, 1) := by decide +kernel
theorem dX12_cam_107 : decode cX12_cam 107 = .ok (.if_icmp .gt 41, 3) := by decide +kernel
theorem dX12_cam_110 : decode cX12_cam 110 = .ok (.iload 5, 2) := by decide +kernel
theorem dX12_cam_112 : decode cX12_cam 112 = .ok (.ifCond .eq 36, 3) := by decide +kernel
theorem dX12_cam_115 : decode cX12_cam 115 = .ok (.aload_n 0, 1) := by decide +kernel
theorem dX12_cam_116 : decode cX12_cam 116 = .ok (.getfield 71, 3) := by decide +kernel
theorem dX12_cam_119 : decode cX12_cam 119 = .ok (.iload 6, 2) := by decide +kernel
theorem dX12_cam_121 : decode cX12_cam 121 = .ok (.iaload, 1) := by decide +kernel
theorem dX12_cam_122 : decode cX12_cam 122 = .ok (.aload_n 0, 1) := by decide +kernel
theorem dX12_cam_123 : decode cX12_cam 123 = .ok (.getfield 71, 3) := by decide +kernel
theorem dX12_cam_126 : decode cX12_cam 126 = .ok (.iload 6, 2) := by decide +kernel
theorem dX12_cam_128 : decode cX12_cam 128 = .ok (.iload 4, 2) := by decide +kernel
theorem dX12_cam_130 : decode cX12_cam 130 = .ok (.isub, 1) := by decide +kernel
theorem dX12_cam_131 : decode cX12_cam 131 = .ok (.iaload, 1) := by decide +kernel
theorem dX12_cam_132 : decode cX12_cam 132 = .ok (.if_icmp .ne 7, 3) := by decide +kernel
theorem dX12_cam_135 : decode cX12_cam 135 = .ok (.iconst 1, 1) := by decide +kernel
theorem dX12_cam_136 : decode cX12_cam 136 = .ok (.goto 4, 3) := by decide +kernel
theorem dX12_cam_139 : decode cX12_cam 139 = .ok (.iconst 0, 1) := by decide +kernel
theorem dX12_cam_140 : decode cX12_cam 140 = .ok (.istore 5, 2) := by decide +kernel
theorem dX12_cam_142 : decode cX12_cam 142 = .ok (.iinc 6 1, 3) := by decide +kernel
theorem dX12_cam_145 : decode cX12_cam 145 = .ok (.goto (-41), 3) := by decide +kernel
theorem dX12_cam_148 : decode cX12_cam 148 = .ok (.iload 5, 2) := by decide +kernel
theorem dX12_cam_150 : decode cX12_cam 150 = .ok (.ifCond .eq 6, 3) := by decide +kernel
theorem dX12_cam_153 : decode cX12_cam 153 = .ok (.iload 4, 2) := by decide +kernel
theorem dX12_cam_155 : decode cX12_cam 155 = .ok (.ireturn, 1) := by decide +kernel
theorem dX12_cam_156 : decode cX12_cam 156 = .ok (.iinc 4 1, 3) := by decide +kernel
theorem dX12_cam_159 : decode cX12_cam 159 = .ok (.goto (-73), 3) := by decide +kernel
theorem dX12_cam_162 : decode cX12_cam 162 = .ok (.iconst (-1), 1) := by decide +kernel
theorem dX12_cam_163 : decode cX12_cam 163 = .ok (.ireturn, 1) := by decide +kernel
theorem dX12_sight_0 : decode cX12_sight 0 = .ok (.aload_n 0, 1) := by decide +kernel
theorem dX12_sight_1 : decode cX12_sight 1 = .ok (.iconst 0, 1) := by decide +kernel
theorem dX12_sight_2 : decode cX12_sight 2 = .ok (.putfield 88, 3) := by decide +kernel
theorem dX12_sight_5 : decode cX12_sight 5 = .ok (.iload_n 2, 1) := by decide +kernel
theorem dX12_sight_6 : decode cX12_sight 6 = .ok (.invokestatic 318, 3) := by decide +kernel
theorem dX12_sight_9 : decode cX12_sight 9 = .ok (.ifCond .eq 7, 3) := by decide +kernel
theorem dX12_sight_12 : decode cX12_sight 12 = .ok (.iload_n 3, 1) := by decide +kernel
theorem dX12_sight_13 : decode cX12_sight 13 = .ok (.ifCond .ge 9, 3) := by decide +kernel
theorem dX12_sight_16 : decode cX12_sight 16 = .ok (.aload_n 0, 1) := by decide +kernel
theorem dX12_sight_17 : decode cX12_sight 17 = .ok (.iconst (-1), 1) := by decide +kernel
theorem dX12_sight_18 : decode cX12_sight 18 = .ok (.invokevirtual 102, 3) := by decide +kernel
theorem dX12_sight_21 : decode cX12_sight 21 = .ok (.ireturn, 1) := by decide +kernel
theorem dX12_sight_22 : decode cX12_sight 22 = .ok (.aload_n 0, 1) := by decide +kernel
theorem dX12_sight_23 : decode cX12_sight 23 = .ok (.iload_n 1, 1) := by decide +kernel
theorem dX12_sight_24 : decode cX12_sight 24 = .ok (.invokevirtual 111, 3) := by decide +kernel
theorem dX12_sight_27 : decode cX12_sight 27 = .ok (.ifCond .ne 10, 3) := by decide +kernel
theorem dX12_sight_30 : decode cX12_sight 30 = .ok (.aload_n 0, 1) := by decide +kernel
theorem dX12_sight_31 : decode cX12_sight 31 = .ok (.bipush (-2), 2) := by decide +kernel
theorem dX12_sight_33 : decode cX12_sight 33 = .ok (.invokevirtual 102, 3) := by decide +kernel
theorem dX12_sight_36 : decode cX12_sight 36 = .ok (.ireturn, 1) := by decide +kernel
theorem dX12_sight_37 : decode cX12_sight 37 = .ok (.iload_n 3, 1) := by decide +kernel
theorem dX12_sight_38 : decode cX12_sight 38 = .ok (.aload_n 0, 1) := by decide +kernel
theorem dX12_sight_39 : decode cX12_sight 39 = .ok (.iload_n 1, 1) := by decide +kernel
theorem dX12_sight_40 : decode cX12_sight 40 = .ok (.iconst 0, 1) := by decide +kernel
theorem dX12_sight_41 : decode cX12_sight 41 = .ok (.invokevirtual 115, 3) := by decide +kernel
theorem dX12_sight_44 : decode cX12_sight 44 = .ok (.if_icmp .lt 9, 3) := by decide +kernel
theorem dX12_sight_47 : decode cX12_sight 47 = .ok (.aload_n 0, 1) := by decide +kernel
theorem dX12_sight_48 : decode cX12_sight 48 = .ok (.iconst (-1), 1) := by decide +kernel
theorem dX12_sight_49 : decode cX12_sight 49 = .ok (.invokevirtual 102, 3) := by decide +kernel
theorem dX12_sight_52 : decode cX12_sight 52 = .ok (.ireturn, 1) := by decide +kernel
theorem dX12_sight_53 : decode cX12_sight 53 = .ok (.aload_n 0, 1) := by decide +kernel
theorem dX12_sight_54 : decode cX12_sight 54 = .ok (.getfield 13, 3) := by decide +kernel
theorem dX12_sight_57 : decode cX12_sight 57 = .ok (.iconst 4, 1) := by decide +kernel
theorem dX12_sight_58 : decode cX12_sight 58 = .ok (.iaload, 1) := by decide +kernel
theorem dX12_sight_59 : decode cX12_sight 59 = .ok (.istore 4, 2) := by decide +kernel
theorem dX12_sight_61 : decode cX12_sight 61 = .ok (.iload 4, 2) := by decide +kernel
theorem dX12_sight_63 : decode cX12_sight 63 = .ok (.bipush 10, 2) := by decide +kernel
theorem dX12_sight_65 : decode cX12_sight 65 = .ok (.if_icmp .ne 10, 3) := by decide +kernel
theorem dX12_sight_68 : decode cX12_sight 68 = .ok (.aload_n 0, 1) := by decide +kernel
theorem dX12_sight_69 : decode cX12_sight 69 = .ok (.bipush (-5), 2) := by decide +kernel
theorem dX12_sight_71 : decode cX12_sight 71 = .ok (.invokevirtual 102, 3) := by decide +kernel
theorem dX12_sight_74 : decode cX12_sight 74 = .ok (.ireturn, 1) := by decide +kernel
theorem dX12_sight_75 : decode cX12_sight 75 = .ok (.aload_n 0, 1) := by decide +kernel
theorem dX12_sight_76 : decode cX12_sight 76 = .ok (.getfield 13, 3) := by decide +kernel
theorem dX12_sight_79 : decode cX12_sight 79 = .ok (.bipush 94, 2) := by decide +kernel
theorem dX12_sight_81 : decode cX12_sight 81 = .ok (.iconst 3, 1) := by decide +kernel
theorem dX12_sight_82 : decode cX12_sight 82 = .ok (.iload 4, 2) := by decide +kernel
theorem dX12_sight_84 : decode cX12_sight 84 = .ok (.imul, 1) := by decide +kernel
theorem dX12_sight_85 : decode cX12_sight 85 = .ok (.iadd, 1) := by decide +kernel
theorem dX12_sight_86 : decode cX12_sight 86 = .ok (.iload_n 1, 1) := by decide +kernel
theorem dX12_sight_87 : decode cX12_sight 87 = .ok (.iastore, 1) := by decide +kernel
theorem dX12_sight_88 : decode cX12_sight 88 = .ok (.aload_n 0, 1) := by decide +kernel
theorem dX12_sight_89 : decode cX12_sight 89 = .ok (.getfield 13, 3) := by decide +kernel
theorem dX12_sight_92 : decode cX12_sight 92 = .ok (.bipush 94, 2) := by decide +kernel
theorem dX12_sight_94 : decode cX12_sight 94 = .ok (.iconst 3, 1) := by decide +kernel
theorem dX12_sight_95 : decode cX12_sight 95 = .ok (.iload 4, 2) := by decide +kernel
theorem dX12_sight_97 : decode cX12_sight 97 = .ok (.imul, 1) := by decide +kernel
theorem dX12_sight_98 : decode cX12_sight 98 = .ok (.iadd, 1) := by decide +kernel
theorem dX12_sight_99 : decode cX12_sight 99 = .ok (.iconst 1, 1) := by decide +kernel
theorem dX12_sight_100 : decode cX12_sight 100 = .ok (.iadd, 1) := by decide +kernel
theorem dX12_sight_101 : decode cX12_sight 101 = .ok (.iload_n 2, 1) := by decide +kernel
theorem dX12_sight_102 : decode cX12_sight 102 = .ok (.iastore, 1) := by decide +kernel
theorem dX12_sight_103 : decode cX12_sight 103 = .ok (.aload_n 0, 1) := by decide +kernel
theorem dX12_sight_104 : decode cX12_sight 104 = .ok (.getfield 13, 3) := by decide +kernel
theorem dX12_sight_107 : decode cX12_sight 107 = .ok (.bipush 94, 2) := by decide +kernel
theorem dX12_sight_109 : decode cX12_sight 109 = .ok (.iconst 3, 1) := by decide +kernel
theorem dX12_sight_110 : decode cX12_sight 110 = .ok (.iload 4, 2) := by decide +kernel
theorem dX12_sight_112 : decode cX12_sight 112 = .ok (.imul, 1) := by decide +kernel
theorem dX12_sight_113 : decode cX12_sight 113 = .ok (.iadd, 1) := by decide +kernel
theorem dX12_sight_114 : decode cX12_sight 114 = .ok (.iconst 2, 1) := by decide +kernel
theorem dX12_sight_115 : decode cX12_sight 115 = .ok (.iadd, 1) := by decide +kernel
theorem dX12_sight_116 : decode cX12_sight 116 = .ok (.iload_n 3, 1) := by decide +kernel
theorem dX12_sight_117 : decode cX12_sight 117 = .ok (.iastore, 1) := by decide +kernel
theorem dX12_sight_118 : decode cX12_sight 118 = .ok (.aload_n 0, 1) := by decide +kernel
theorem dX12_sight_119 : decode cX12_sight 119 = .ok (.getfield 13, 3) := by decide +kernel
theorem dX12_sight_122 : decode cX12_sight 122 = .ok (.iconst 4, 1) := by decide +kernel
theorem dX12_sight_123 : decode cX12_sight 123 = .ok (.dup2, 1) := by decide +kernel
theorem dX12_sight_124 : decode cX12_sight 124 = .ok (.iaload, 1) := by decide +kernel
theorem dX12_sight_125 : decode cX12_sight 125 = .ok (.iconst 1, 1) := by decide +kernel
theorem dX12_sight_126 : decode cX12_sight 126 = .ok (.iadd, 1) := by decide +kernel
theorem dX12_sight_127 : decode cX12_sight 127 = .ok (.iastore, 1) := by decide +kernel
theorem dX12_sight_128 : decode cX12_sight 128 = .ok (.aload_n 0, 1) := by decide +kernel
theorem dX12_sight_129 : decode cX12_sight 129 = .ok (.iload 4, 2) := by decide +kernel
theorem dX12_sight_131 : decode cX12_sight 131 = .ok (.iconst 1, 1) := by decide +kernel
theorem dX12_sight_132 : decode cX12_sight 132 = .ok (.iadd, 1) := by decide +kernel
theorem dX12_sight_133 : decode cX12_sight 133 = .ok (.invokevirtual 102, 3) := by decide +kernel
theorem dX12_sight_136 : decode cX12_sight 136 = .ok (.ireturn, 1) := by decide +kernel
theorem dX12_forget_0 : decode cX12_forget 0 = .ok (.aload_n 0, 1) := by decide +kernel
theorem dX12_forget_1 : decode cX12_forget 1 = .ok (.iconst 0, 1) := by decide +kernel
theorem dX12_forget_2 : decode cX12_forget 2 = .ok (.putfield 88, 3) := by decide +kernel
theorem dX12_forget_5 : decode cX12_forget 5 = .ok (.aload_n 0, 1) := by decide +kernel
theorem dX12_forget_6 : decode cX12_forget 6 = .ok (.getfield 13, 3) := by decide +kernel
theorem dX12_forget_9 : decode cX12_forget 9 = .ok (.iconst 4, 1) := by decide +kernel
theorem dX12_forget_10 : decode cX12_forget 10 = .ok (.iaload, 1) := by decide +kernel
theorem dX12_forget_11 : decode cX12_forget 11 = .ok (.istore_n 1, 1) := by decide +kernel
theorem dX12_forget_12 : decode cX12_forget 12 = .ok (.aload_n 0, 1) := by decide +kernel
theorem dX12_forget_13 : decode cX12_forget 13 = .ok (.getfield 13, 3) := by decide +kernel
theorem dX12_forget_16 : decode cX12_forget 16 = .ok (.iconst 4, 1) := by decide +kernel
theorem dX12_forget_17 : decode cX12_forget 17 = .ok (.iconst 0, 1) := by decide +kernel
theorem dX12_forget_18 : decode cX12_forget 18 = .ok (.iastore, 1) := by decide +kernel
theorem dX12_forget_19 : decode cX12_forget 19 = .ok (.iload_n 1, 1) := by decide +kernel
theorem dX12_forget_20 : decode cX12_forget 20 = .ok (.ireturn, 1) := by decide +kernel
theorem dX12_offsetBy_0 : decode cX12_offsetBy 0 = .ok (.aload_n 0, 1) := by decide +kernel
theorem dX12_offsetBy_1 : decode cX12_offsetBy 1 = .ok (.iload_n 1, 1) := by decide +kernel
theorem dX12_offsetBy_2 : decode cX12_offsetBy 2 = .ok (.iconst 0, 1) := by decide +kernel
theorem dX12_offsetBy_3 : decode cX12_offsetBy 3 = .ok (.invokevirtual 115, 3) := by decide +kernel
theorem dX12_offsetBy_6 : decode cX12_offsetBy 6 = .ok (.istore 6, 2) := by decide +kernel
theorem dX12_offsetBy_8 : decode cX12_offsetBy 8 = .ok (.iload 6, 2) := by decide +kernel
theorem dX12_offsetBy_10 : decode cX12_offsetBy 10 = .ok (.istore 7, 2) := by decide +kernel
theorem dX12_offsetBy_12 : decode cX12_offsetBy 12 = .ok (.iconst 0, 1) := by decide +kernel
theorem dX12_offsetBy_13 : decode cX12_offsetBy 13 = .ok (.istore 8, 2) := by decide +kernel
theorem dX12_offsetBy_15 : decode cX12_offsetBy 15 = .ok (.iload 8, 2) := by decide +kernel
theorem dX12_offsetBy_17 : decode cX12_offsetBy 17 = .ok (.aload_n 0, 1) := by decide +kernel
theorem dX12_offsetBy_18 : decode cX12_offsetBy 18 = .ok (.getfield 13, 3) := by decide +kernel
theorem dX12_offsetBy_21 : decode cX12_offsetBy 21 = .ok (.iconst 4, 1) := by decide +kernel
theorem dX12_offsetBy_22 : decode cX12_offsetBy 22 = .ok (.iaload, 1) := by decide +kernel
theorem dX12_offsetBy_23 : decode cX12_offsetBy 23 = .ok (.if_icmp .ge 107, 3) := by decide +kernel
theorem dX12_offsetBy_26 : decode cX12_offsetBy 26 = .ok (.bipush 94, 2) := by decide +kernel
theorem dX12_offsetBy_28 : decode cX12_offsetBy 28 = .ok (.iconst 3, 1) := by decide +kernel
theorem dX12_offsetBy_29 : decode cX12_offsetBy 29 = .ok (.iload 8, 2) := by decide +kernel
theorem dX12_offsetBy_31 : decode cX12_offsetBy 31 = .ok (.imul, 1) := by decide +kernel
theorem dX12_offsetBy_32 : decode cX12_offsetBy 32 = .ok (.iadd, 1) := by decide +kernel
theorem dX12_offsetBy_33 : decode cX12_offsetBy 33 = .ok (.istore 9, 2) := by decide +kernel
theorem dX12_offsetBy_35 : decode cX12_offsetBy 35 = .ok (.aload_n 0, 1) := by decide +kernel
theorem dX12_offsetBy_36 : decode cX12_offsetBy 36 = .ok (.getfield 13, 3) := by decide +kernel
theorem dX12_offsetBy_39 : decode cX12_offsetBy 39 = .ok (.iload 9, 2) := by decide +kernel
theorem dX12_offsetBy_41 : decode cX12_offsetBy 41 = .ok (.iaload, 1) := by decide +kernel
theorem dX12_offsetBy_42 : decode cX12_offsetBy 42 = .ok (.iload_n 1, 1) := by decide +kernel
theorem dX12_offsetBy_43 : decode cX12_offsetBy 43 = .ok (.if_icmp .ne 81, 3) := by decide +kernel
theorem dX12_offsetBy_46 : decode cX12_offsetBy 46 = .ok (.aload_n 0, 1) := by decide +kernel
theorem dX12_offsetBy_47 : decode cX12_offsetBy 47 = .ok (.getfield 13, 3) := by decide +kernel
theorem dX12_offsetBy_50 : decode cX12_offsetBy 50 = .ok (.iload 9, 2) := by decide +kernel
theorem dX12_offsetBy_52 : decode cX12_offsetBy 52 = .ok (.iconst 2, 1) := by decide +kernel
theorem dX12_offsetBy_53 : decode cX12_offsetBy 53 = .ok (.iadd, 1) := by decide +kernel
theorem dX12_offsetBy_54 : decode cX12_offsetBy 54 = .ok (.iaload, 1) := by decide +kernel
theorem dX12_offsetBy_55 : decode cX12_offsetBy 55 = .ok (.aload_n 0, 1) := by decide +kernel
theorem dX12_offsetBy_56 : decode cX12_offsetBy 56 = .ok (.getfield 13, 3) := by decide +kernel
theorem dX12_offsetBy_59 : decode cX12_offsetBy 59 = .ok (.iload 9, 2) := by decide +kernel
theorem dX12_offsetBy_61 : decode cX12_offsetBy 61 = .ok (.iconst 1, 1) := by decide +kernel
theorem dX12_offsetBy_62 : decode cX12_offsetBy 62 = .ok (.iadd, 1) := by decide +kernel
theorem dX12_offsetBy_63 : decode cX12_offsetBy 63 = .ok (.iaload, 1) := by decide +kernel
theorem dX12_offsetBy_64 : decode cX12_offsetBy 64 = .ok (.i2l, 1) := by decide +kernel
theorem dX12_offsetBy_65 : decode cX12_offsetBy 65 = .ok (.lload_n 2, 1) := by decide +kernel
theorem dX12_offsetBy_66 : decode cX12_offsetBy 66 = .ok (.lload 4, 2) := by decide +kernel
theorem dX12_offsetBy_68 : decode cX12_offsetBy 68 = .ok (.iload 6, 2) := by decide +kernel
theorem dX12_offsetBy_70 : decode cX12_offsetBy 70 = .ok (.iconst 0, 1) := by decide +kernel
theorem dX12_offsetBy_71 : decode cX12_offsetBy 71 = .ok (.invokestatic 345, 3) := by decide +kernel
theorem dX12_offsetBy_74 : decode cX12_offsetBy 74 = .ok (.isub, 1) := by decide +kernel
theorem dX12_offsetBy_75 : decode cX12_offsetBy 75 = .ok (.istore 10, 2) := by decide +kernel
theorem dX12_offsetBy_77 : decode cX12_offsetBy 77 = .ok (.iload 10, 2) := by decide +kernel
theorem dX12_offsetBy_79 : decode cX12_offsetBy 79 = .ok (.ifCond .ge 11, 3) := by decide +kernel
theorem dX12_offsetBy_82 : decode cX12_offsetBy 82 = .ok (.iload 10, 2) := by decide +kernel
theorem dX12_offsetBy_84 : decode cX12_offsetBy 84 = .ok (.iload 6, 2) := by decide +kernel
theorem dX12_offsetBy_86 : decode cX12_offsetBy 86 = .ok (.iadd, 1) := by decide +kernel
theorem dX12_offsetBy_87 : decode cX12_offsetBy 87 = .ok (.goto 5, 3) := by decide +kernel
theorem dX12_offsetBy_90 : decode cX12_offsetBy 90 = .ok (.iload 10, 2) := by decide +kernel
theorem dX12_offsetBy_92 : decode cX12_offsetBy 92 = .ok (.istore 11, 2) := by decide +kernel
theorem dX12_offsetBy_94 : decode cX12_offsetBy 94 = .ok (.iload 7, 2) := by decide +kernel
theorem dX12_offsetBy_96 : decode cX12_offsetBy 96 = .ok (.iload 6, 2) := by decide +kernel
theorem dX12_offsetBy_98 : decode cX12_offsetBy 98 = .ok (.if_icmp .eq 10, 3) := by decide +kernel
theorem dX12_offsetBy_101 : decode cX12_offsetBy 101 = .ok (.iload 7, 2) := by decide +kernel
theorem dX12_offsetBy_103 : decode cX12_offsetBy 103 = .ok (.iload 11, 2) := by decide +kernel
theorem dX12_offsetBy_105 : decode cX12_offsetBy 105 = .ok (.if_icmp .ne 8, 3) := by decide +kernel
theorem dX12_offsetBy_108 : decode cX12_offsetBy 108 = .ok (.iload 11, 2) := by decide +kernel
theorem dX12_offsetBy_110 : decode cX12_offsetBy 110 = .ok (.goto 4, 3) := by decide +kernel
theorem dX12_offsetBy_113 : decode cX12_offsetBy 113 = .ok (.iconst (-1), 1) := by decide +kernel
theorem dX12_offsetBy_114 : decode cX12_offsetBy 114 = .ok (.istore 7, 2) := by decide +kernel
theorem dX12_offsetBy_116 : decode cX12_offsetBy 116 = .ok (.iload 7, 2) := by decide +kernel
theorem dX12_offsetBy_118 : decode cX12_offsetBy 118 = .ok (.iconst (-1), 1) := by decide +kernel
theorem dX12_offsetBy_119 : decode cX12_offsetBy 119 = .ok (.if_icmp .ne 5, 3) := by decide +kernel
theorem dX12_offsetBy_122 : decode cX12_offsetBy 122 = .ok (.iconst (-1), 1) := by decide +kernel
theorem dX12_offsetBy_123 : decode cX12_offsetBy 123 = .ok (.ireturn, 1) := by decide +kernel
theorem dX12_offsetBy_124 : decode cX12_offsetBy 124 = .ok (.iinc 8 1, 3) := by decide +kernel
theorem dX12_offsetBy_127 : decode cX12_offsetBy 127 = .ok (.goto (-112), 3) := by decide +kernel
theorem dX12_offsetBy_130 : decode cX12_offsetBy 130 = .ok (.iload 7, 2) := by decide +kernel
theorem dX12_offsetBy_132 : decode cX12_offsetBy 132 = .ok (.ireturn, 1) := by decide +kernel
theorem dX12_inside_0 : decode cX12_inside 0 = .ok (.aload_n 0, 1) := by decide +kernel
theorem dX12_inside_1 : decode cX12_inside 1 = .ok (.iconst 0, 1) := by decide +kernel
theorem dX12_inside_2 : decode cX12_inside 2 = .ok (.putfield 88, 3) := by decide +kernel
theorem dX12_inside_5 : decode cX12_inside 5 = .ok (.aload_n 0, 1) := by decide +kernel
theorem dX12_inside_6 : decode cX12_inside 6 = .ok (.iload_n 1, 1) := by decide +kernel
theorem dX12_inside_7 : decode cX12_inside 7 = .ok (.invokevirtual 111, 3) := by decide +kernel
theorem dX12_inside_10 : decode cX12_inside 10 = .ok (.ifCond .eq 15, 3) := by decide +kernel
theorem dX12_inside_13 : decode cX12_inside 13 = .ok (.iload_n 2, 1) := by decide +kernel
theorem dX12_inside_14 : decode cX12_inside 14 = .ok (.i2l, 1) := by decide +kernel
theorem dX12_inside_15 : decode cX12_inside 15 = .ok (.lconst 0, 1) := by decide +kernel
theorem dX12_inside_16 : decode cX12_inside 16 = .ok (.ldc2_w 122, 3) := by decide +kernel
theorem dX12_inside_19 : decode cX12_inside 19 = .ok (.invokestatic 98, 3) := by decide +kernel
theorem dX12_inside_22 : decode cX12_inside 22 = .ok (.ifCond .ne 5, 3) := by decide +kernel
theorem dX12_inside_25 : decode cX12_inside 25 = .ok (.iconst (-1), 1) := by decide +kernel
theorem dX12_inside_26 : decode cX12_inside 26 = .ok (.ireturn, 1) := by decide +kernel
theorem dX12_inside_27 : decode cX12_inside 27 = .ok (.aload_n 0, 1) := by decide +kernel
theorem dX12_inside_28 : decode cX12_inside 28 = .ok (.iload_n 1, 1) := by decide +kernel
theorem dX12_inside_29 : decode cX12_inside 29 = .ok (.iconst 0, 1) := by decide +kernel
theorem dX12_inside_30 : decode cX12_inside 30 = .ok (.invokevirtual 115, 3) := by decide +kernel
theorem dX12_inside_33 : decode cX12_inside 33 = .ok (.istore_n 3, 1) := by decide +kernel
theorem dX12_inside_34 : decode cX12_inside 34 = .ok (.iconst 0, 1) := by decide +kernel
theorem dX12_inside_35 : decode cX12_inside 35 = .ok (.istore 4, 2) := by decide +kernel
theorem dX12_inside_37 : decode cX12_inside 37 = .ok (.iconst 0, 1) := by decide +kernel
theorem dX12_inside_38 : decode cX12_inside 38 = .ok (.istore 5, 2) := by decide +kernel
theorem dX12_inside_40 : decode cX12_inside 40 = .ok (.iconst 0, 1) := by decide +kernel
theorem dX12_inside_41 : decode cX12_inside 41 = .ok (.istore 6, 2) := by decide +kernel
theorem dX12_inside_43 : decode cX12_inside 43 = .ok (.iconst 2, 1) := by decide +kernel
theorem dX12_inside_44 : decode cX12_inside 44 = .ok (.istore 7, 2) := by decide +kernel
theorem dX12_inside_46 : decode cX12_inside 46 = .ok (.iload 7, 2) := by decide +kernel
theorem dX12_inside_48 : decode cX12_inside 48 = .ok (.iconst 5, 1) := by decide +kernel
theorem dX12_inside_49 : decode cX12_inside 49 = .ok (.if_icmp .ge 128, 3) := by decide +kernel
theorem dX12_inside_52 : decode cX12_inside 52 = .ok (.iload 7, 2) := by decide +kernel
theorem dX12_inside_54 : decode cX12_inside 54 = .ok (.aload_n 0, 1) := by decide +kernel
theorem dX12_inside_55 : decode cX12_inside 55 = .ok (.getfield 13, 3) := by decide +kernel
theorem dX12_inside_58 : decode cX12_inside 58 = .ok (.iconst 1, 1) := by decide +kernel
theorem dX12_inside_59 : decode cX12_inside 59 = .ok (.iaload, 1) := by decide +kernel
theorem dX12_inside_60 : decode cX12_inside 60 = .ok (.if_icmp .gt 117, 3) := by decide +kernel
theorem dX12_inside_63 : decode cX12_inside 63 = .ok (.aload_n 0, 1) := by decide +kernel
theorem dX12_inside_64 : decode cX12_inside 64 = .ok (.iload 7, 2) := by decide +kernel
theorem dX12_inside_66 : decode cX12_inside 66 = .ok (.invokevirtual 381, 3) := by decide +kernel
theorem dX12_inside_69 : decode cX12_inside 69 = .ok (.aload_n 0, 1) := by decide +kernel
theorem dX12_inside_70 : decode cX12_inside 70 = .ok (.iload 7, 2) := by decide +kernel
theorem dX12_inside_72 : decode cX12_inside 72 = .ok (.invokevirtual 384, 3) := by decide +kernel
theorem dX12_inside_75 : decode cX12_inside 75 = .ok (.ifCond .eq 96, 3) := by decide +kernel
theorem dX12_inside_78 : decode cX12_inside 78 = .ok (.aload_n 0, 1) := by decide +kernel
theorem dX12_inside_79 : decode cX12_inside 79 = .ok (.iload_n 1, 1) := by decide +kernel
theorem dX12_inside_80 : decode cX12_inside 80 = .ok (.aload_n 0, 1) := by decide +kernel
theorem dX12_inside_81 : decode cX12_inside 81 = .ok (.iload 7, 2) := by decide +kernel
theorem dX12_inside_83 : decode cX12_inside 83 = .ok (.invokevirtual 390, 3) := by decide +kernel
theorem dX12_inside_86 : decode cX12_inside 86 = .ok (.aload_n 0, 1) := by decide +kernel
theorem dX12_inside_87 : decode cX12_inside 87 = .ok (.iload 7, 2) := by decide +kernel
theorem dX12_inside_89 : decode cX12_inside 89 = .ok (.invokevirtual 387, 3) := by decide +kernel
theorem dX12_inside_92 : decode cX12_inside 92 = .ok (.invokevirtual 414, 3) := by decide +kernel
theorem dX12_inside_95 : decode cX12_inside 95 = .ok (.istore 8, 2) := by decide +kernel
theorem dX12_inside_97 : decode cX12_inside 97 = .ok (.iload 8, 2) := by decide +kernel
theorem dX12_inside_99 : decode cX12_inside 99 = .ok (.iconst (-1), 1) := by decide +kernel
theorem dX12_inside_100 : decode cX12_inside 100 = .ok (.if_icmp .eq 68, 3) := by decide +kernel
theorem dX12_inside_103 : decode cX12_inside 103 = .ok (.iload 4, 2) := by decide +kernel
theorem dX12_inside_105 : decode cX12_inside 105 = .ok (.iload 8, 2) := by decide +kernel
theorem dX12_inside_107 : decode cX12_inside 107 = .ok (.iload_n 3, 1) := by decide +kernel
theorem dX12_inside_108 : decode cX12_inside 108 = .ok (.if_icmp .ne 7, 3) := by decide +kernel
theorem dX12_inside_111 : decode cX12_inside 111 = .ok (.iload_n 3, 1) := by decide +kernel
theorem dX12_inside_112 : decode cX12_inside 112 = .ok (.goto 4, 3) := by decide +kernel
theorem dX12_inside_115 : decode cX12_inside 115 = .ok (.iconst 1, 1) := by decide +kernel
theorem dX12_inside_116 : decode cX12_inside 116 = .ok (.iadd, 1) := by decide +kernel
theorem dX12_inside_117 : decode cX12_inside 117 = .ok (.istore 4, 2) := by decide +kernel
theorem dX12_inside_119 : decode cX12_inside 119 = .ok (.iload 8, 2) := by decide +kernel
theorem dX12_inside_121 : decode cX12_inside 121 = .ok (.iload_n 3, 1) := by decide +kernel
theorem dX12_inside_122 : decode cX12_inside 122 = .ok (.if_icmp .ne 7, 3) := by decide +kernel
theorem dX12_inside_125 : decode cX12_inside 125 = .ok (.iconst 0, 1) := by decide +kernel
theorem dX12_inside_126 : decode cX12_inside 126 = .ok (.goto 5, 3) := by decide +kernel
theorem dX12_inside_129 : decode cX12_inside 129 = .ok (.iload 8, 2) := by decide +kernel
theorem dX12_inside_131 : decode cX12_inside 131 = .ok (.istore 9, 2) := by decide +kernel
theorem dX12_inside_133 : decode cX12_inside 133 = .ok (.iload 5, 2) := by decide +kernel
theorem dX12_inside_135 : decode cX12_inside 135 = .ok (.ifCond .eq 19, 3) := by decide +kernel
theorem dX12_inside_138 : decode cX12_inside 138 = .ok (.iload 5, 2) := by decide +kernel
theorem dX12_inside_140 : decode cX12_inside 140 = .ok (.iload 7, 2) := by decide +kernel
theorem dX12_inside_142 : decode cX12_inside 142 = .ok (.iconst 2, 1) := by decide +kernel
theorem dX12_inside_143 : decode cX12_inside 143 = .ok (.idiv, 1) := by decide +kernel
theorem dX12_inside_144 : decode cX12_inside 144 = .ok (.if_icmp .ne 24, 3) := by decide +kernel
theorem dX12_inside_147 : decode cX12_inside 147 = .ok (.iload 9, 2) := by decide +kernel
theorem dX12_inside_149 : decode cX12_inside 149 = .ok (.iload 6, 2) := by decide +kernel
theorem dX12_inside_151 : decode cX12_inside 151 = .ok (.if_icmp .ge 17, 3) := by decide +kernel
theorem dX12_inside_154 : decode cX12_inside 154 = .ok (.iload 7, 2) := by decide +kernel
theorem dX12_inside_156 : decode cX12_inside 156 = .ok (.iconst 2, 1) := by decide +kernel
theorem dX12_inside_157 : decode cX12_inside 157 = .ok (.idiv, 1) := by decide +kernel
theorem dX12_inside_158 : decode cX12_inside 158 = .ok (.istore 5, 2) := by decide +kernel
theorem dX12_inside_160 : decode cX12_inside 160 = .ok (.iload 9, 2) := by decide +kernel
theorem dX12_inside_162 : decode cX12_inside 162 = .ok (.istore 6, 2) := by decide +kernel
theorem dX12_inside_164 : decode cX12_inside 164 = .ok (.aload_n 0, 1) := by decide +kernel
theorem dX12_inside_165 : decode cX12_inside 165 = .ok (.invokevirtual 399, 3) := by decide +kernel
theorem dX12_inside_168 : decode cX12_inside 168 = .ok (.goto (-99), 3) := by decide +kernel
theorem dX12_inside_171 : decode cX12_inside 171 = .ok (.iinc 7 2, 3) := by decide +kernel
theorem dX12_inside_174 : decode cX12_inside 174 = .ok (.goto (-128), 3) := by decide +kernel
theorem dX12_inside_177 : decode cX12_inside 177 = .ok (.iload_n 2, 1) := by decide +kernel
theorem dX12_inside_178 : decode cX12_inside 178 = .ok (.ifCond .ne 6, 3) := by decide +kernel
theorem dX12_inside_181 : decode cX12_inside 181 = .ok (.iload 4, 2) := by decide +kernel
theorem dX12_inside_183 : decode cX12_inside 183 = .ok (.ireturn, 1) := by decide +kernel
theorem dX12_inside_184 : decode cX12_inside 184 = .ok (.iload 4, 2) := by decide +kernel
theorem dX12_inside_186 : decode cX12_inside 186 = .ok (.ifCond .ne 7, 3) := by decide +kernel
theorem dX12_inside_189 : decode cX12_inside 189 = .ok (.iconst (-1), 1) := by decide +kernel
theorem dX12_inside_190 : decode cX12_inside 190 = .ok (.goto 45, 3) := by decide +kernel
theorem dX12_inside_193 : decode cX12_inside 193 = .ok (.iload_n 2, 1) := by decide +kernel
theorem dX12_inside_194 : decode cX12_inside 194 = .ok (.iconst 1, 1) := by decide +kernel
theorem dX12_inside_195 : decode cX12_inside 195 = .ok (.if_icmp .ne 8, 3) := by decide +kernel
theorem dX12_inside_198 : decode cX12_inside 198 = .ok (.iload 5, 2) := by decide +kernel
theorem dX12_inside_200 : decode cX12_inside 200 = .ok (.goto 35, 3) := by decide +kernel
theorem dX12_inside_203 : decode cX12_inside 203 = .ok (.iload_n 2, 1) := by decide +kernel
theorem dX12_inside_204 : decode cX12_inside 204 = .ok (.iconst 2, 1) := by decide +kernel
theorem dX12_inside_205 : decode cX12_inside 205 = .ok (.if_icmp .ne 8, 3) := by decide +kernel
theorem dX12_inside_208 : decode cX12_inside 208 = .ok (.iload 6, 2) := by decide +kernel
theorem dX12_inside_210 : decode cX12_inside 210 = .ok (.goto 25, 3) := by decide +kernel
theorem dX12_inside_213 : decode cX12_inside 213 = .ok (.iload_n 2, 1) := by decide +kernel
theorem dX12_inside_214 : decode cX12_inside 214 = .ok (.iconst 2, 1) := by decide +kernel
theorem dX12_inside_215 : decode cX12_inside 215 = .ok (.isub, 1) := by decide +kernel
theorem dX12_inside_216 : decode cX12_inside 216 = .ok (.iconst 2, 1) := by decide +kernel
theorem dX12_inside_217 : decode cX12_inside 217 = .ok (.iload 5, 2) := by decide +kernel
theorem dX12_inside_219 : decode cX12_inside 219 = .ok (.imul, 1) := by decide +kernel
theorem dX12_inside_220 : decode cX12_inside 220 = .ok (.if_icmp .gt 14, 3) := by decide +kernel
theorem dX12_inside_223 : decode cX12_inside 223 = .ok (.aload_n 0, 1) := by decide +kernel
theorem dX12_inside_224 : decode cX12_inside 224 = .ok (.getfield 68, 3) := by decide +kernel
theorem dX12_inside_227 : decode cX12_inside 227 = .ok (.iload_n 2, 1) := by decide +kernel
theorem dX12_inside_228 : decode cX12_inside 228 = .ok (.iconst 3, 1) := by decide +kernel
theorem dX12_inside_229 : decode cX12_inside 229 = .ok (.isub, 1) := by decide +kernel
theorem dX12_inside_230 : decode cX12_inside 230 = .ok (.iaload, 1) := by decide +kernel
theorem dX12_inside_231 : decode cX12_inside 231 = .ok (.goto 4, 3) := by decide +kernel
theorem dX12_inside_234 : decode cX12_inside 234 = .ok (.iconst (-1), 1) := by decide +kernel
theorem dX12_inside_235 : decode cX12_inside 235 = .ok (.ireturn, 1) := by decide +kernel
theorem dX12_areSeen_0 : decode cX12_areSeen 0 = .ok (.iconst 1, 1) := by decide +kernel
theorem dX12_areSeen_1 : decode cX12_areSeen 1 = .ok (.istore_n 3, 1) := by decide +kernel
theorem dX12_areSeen_2 : decode cX12_areSeen 2 = .ok (.iconst 0, 1) := by decide +kernel
theorem dX12_areSeen_3 : decode cX12_areSeen 3 = .ok (.istore 4, 2) := by decide +kernel
theorem dX12_areSeen_5 : decode cX12_areSeen 5 = .ok (.iload 4, 2) := by decide +kernel
theorem dX12_areSeen_7 : decode cX12_areSeen 7 = .ok (.aload_n 0, 1) := by decide +kernel
theorem dX12_areSeen_8 : decode cX12_areSeen 8 = .ok (.getfield 13, 3) := by decide +kernel
theorem dX12_areSeen_11 : decode cX12_areSeen 11 = .ok (.iconst 4, 1) := by decide +kernel
theorem dX12_areSeen_12 : decode cX12_areSeen 12 = .ok (.iaload, 1) := by decide +kernel
theorem dX12_areSeen_13 : decode cX12_areSeen 13 = .ok (.if_icmp .ge 70, 3) := by decide +kernel
theorem dX12_areSeen_16 : decode cX12_areSeen 16 = .ok (.bipush 94, 2) := by decide +kernel
theorem dX12_areSeen_18 : decode cX12_areSeen 18 = .ok (.iconst 3, 1) := by decide +kernel
theorem dX12_areSeen_19 : decode cX12_areSeen 19 = .ok (.iload 4, 2) := by decide +kernel
theorem dX12_areSeen_21 : decode cX12_areSeen 21 = .ok (.imul, 1) := by decide +kernel
theorem dX12_areSeen_22 : decode cX12_areSeen 22 = .ok (.iadd, 1) := by decide +kernel
theorem dX12_areSeen_23 : decode cX12_areSeen 23 = .ok (.istore 5, 2) := by decide +kernel
theorem dX12_areSeen_25 : decode cX12_areSeen 25 = .ok (.iload_n 3, 1) := by decide +kernel
theorem dX12_areSeen_26 : decode cX12_areSeen 26 = .ok (.ifCond .eq 49, 3) := by decide +kernel
theorem dX12_areSeen_29 : decode cX12_areSeen 29 = .ok (.aload_n 0, 1) := by decide +kernel
theorem dX12_areSeen_30 : decode cX12_areSeen 30 = .ok (.getfield 13, 3) := by decide +kernel
theorem dX12_areSeen_33 : decode cX12_areSeen 33 = .ok (.iload 5, 2) := by decide +kernel
theorem dX12_areSeen_35 : decode cX12_areSeen 35 = .ok (.iaload, 1) := by decide +kernel
theorem dX12_areSeen_36 : decode cX12_areSeen 36 = .ok (.iload_n 1, 1) := by decide +kernel
theorem dX12_areSeen_37 : decode cX12_areSeen 37 = .ok (.if_icmp .ne 34, 3) := by decide +kernel
theorem dX12_areSeen_40 : decode cX12_areSeen 40 = .ok (.aload_n 0, 1) := by decide +kernel
theorem dX12_areSeen_41 : decode cX12_areSeen 41 = .ok (.iload_n 1, 1) := by decide +kernel
theorem dX12_areSeen_42 : decode cX12_areSeen 42 = .ok (.aload_n 0, 1) := by decide +kernel
theorem dX12_areSeen_43 : decode cX12_areSeen 43 = .ok (.getfield 13, 3) := by decide +kernel
theorem dX12_areSeen_46 : decode cX12_areSeen 46 = .ok (.iload 5, 2) := by decide +kernel
theorem dX12_areSeen_48 : decode cX12_areSeen 48 = .ok (.iconst 1, 1) := by decide +kernel
theorem dX12_areSeen_49 : decode cX12_areSeen 49 = .ok (.iadd, 1) := by decide +kernel
theorem dX12_areSeen_50 : decode cX12_areSeen 50 = .ok (.iaload, 1) := by decide +kernel
theorem dX12_areSeen_51 : decode cX12_areSeen 51 = .ok (.i2l, 1) := by decide +kernel
theorem dX12_areSeen_52 : decode cX12_areSeen 52 = .ok (.iload_n 2, 1) := by decide +kernel
theorem dX12_areSeen_53 : decode cX12_areSeen 53 = .ok (.invokestatic 418, 3) := by decide +kernel
theorem dX12_areSeen_56 : decode cX12_areSeen 56 = .ok (.invokevirtual 349, 3) := by decide +kernel
theorem dX12_areSeen_59 : decode cX12_areSeen 59 = .ok (.aload_n 0, 1) := by decide +kernel
theorem dX12_areSeen_60 : decode cX12_areSeen 60 = .ok (.getfield 13, 3) := by decide +kernel
theorem dX12_areSeen_63 : decode cX12_areSeen 63 = .ok (.iload 5, 2) := by decide +kernel
theorem dX12_areSeen_65 : decode cX12_areSeen 65 = .ok (.iconst 2, 1) := by decide +kernel
theorem dX12_areSeen_66 : decode cX12_areSeen 66 = .ok (.iadd, 1) := by decide +kernel
theorem dX12_areSeen_67 : decode cX12_areSeen 67 = .ok (.iaload, 1) := by decide +kernel
theorem dX12_areSeen_68 : decode cX12_areSeen 68 = .ok (.if_icmp .ne 7, 3) := by decide +kernel
theorem dX12_areSeen_71 : decode cX12_areSeen 71 = .ok (.iconst 1, 1) := by decide +kernel
theorem dX12_areSeen_72 : decode cX12_areSeen 72 = .ok (.goto 4, 3) := by decide +kernel
theorem dX12_areSeen_75 : decode cX12_areSeen 75 = .ok (.iconst 0, 1) := by decide +kernel
theorem dX12_areSeen_76 : decode cX12_areSeen 76 = .ok (.istore_n 3, 1) := by decide +kernel
theorem dX12_areSeen_77 : decode cX12_areSeen 77 = .ok (.iinc 4 1, 3) := by decide +kernel
theorem dX12_areSeen_80 : decode cX12_areSeen 80 = .ok (.goto (-75), 3) := by decide +kernel
theorem dX12_areSeen_83 : decode cX12_areSeen 83 = .ok (.iload_n 3, 1) := by decide +kernel
theorem dX12_areSeen_84 : decode cX12_areSeen 84 = .ok (.ireturn, 1) := by decide +kernel
theorem dX12_gone_0 : decode cX12_gone 0 = .ok (.aload_n 0, 1) := by decide +kernel
theorem dX12_gone_1 : decode cX12_gone 1 = .ok (.iconst 0, 1) := by decide +kernel
theorem dX12_gone_2 : decode cX12_gone 2 = .ok (.putfield 88, 3) := by decide +kernel
theorem dX12_gone_5 : decode cX12_gone 5 = .ok (.aload_n 0, 1) := by decide +kernel
theorem dX12_gone_6 : decode cX12_gone 6 = .ok (.iload_n 1, 1) := by decide +kernel
theorem dX12_gone_7 : decode cX12_gone 7 = .ok (.invokevirtual 111, 3) := by decide +kernel
theorem dX12_gone_10 : decode cX12_gone 10 = .ok (.ifCond .eq 22, 3) := by decide +kernel
theorem dX12_gone_13 : decode cX12_gone 13 = .ok (.iload_n 2, 1) := by decide +kernel
theorem dX12_gone_14 : decode cX12_gone 14 = .ok (.i2l, 1) := by decide +kernel
theorem dX12_gone_15 : decode cX12_gone 15 = .ok (.lconst 0, 1) := by decide +kernel
theorem dX12_gone_16 : decode cX12_gone 16 = .ok (.lconst 1, 1) := by decide +kernel
theorem dX12_gone_17 : decode cX12_gone 17 = .ok (.invokestatic 98, 3) := by decide +kernel
theorem dX12_gone_20 : decode cX12_gone 20 = .ok (.ifCond .eq 12, 3) := by decide +kernel
theorem dX12_gone_23 : decode cX12_gone 23 = .ok (.aload_n 0, 1) := by decide +kernel
theorem dX12_gone_24 : decode cX12_gone 24 = .ok (.iload_n 1, 1) := by decide +kernel
theorem dX12_gone_25 : decode cX12_gone 25 = .ok (.iload_n 2, 1) := by decide +kernel
theorem dX12_gone_26 : decode cX12_gone 26 = .ok (.invokevirtual 422, 3) := by decide +kernel
theorem dX12_gone_29 : decode cX12_gone 29 = .ok (.goto 4, 3) := by decide +kernel
theorem dX12_gone_32 : decode cX12_gone 32 = .ok (.iconst (-1), 1) := by decide +kernel
theorem dX12_gone_33 : decode cX12_gone 33 = .ok (.ireturn, 1) := by decide +kernel
theorem dX12_gapOf_0 : decode cX12_gapOf 0 = .ok (.iconst 0, 1) := by decide +kernel
theorem dX12_gapOf_1 : decode cX12_gapOf 1 = .ok (.istore_n 3, 1) := by decide +kernel
theorem dX12_gapOf_2 : decode cX12_gapOf 2 = .ok (.iconst (-1), 1) := by decide +kernel
theorem dX12_gapOf_3 : decode cX12_gapOf 3 = .ok (.istore 4, 2) := by decide +kernel
theorem dX12_gapOf_5 : decode cX12_gapOf 5 = .ok (.iconst 2, 1) := by decide +kernel
theorem dX12_gapOf_6 : decode cX12_gapOf 6 = .ok (.istore 5, 2) := by decide +kernel
theorem dX12_gapOf_8 : decode cX12_gapOf 8 = .ok (.iload 5, 2) := by decide +kernel
theorem dX12_gapOf_10 : decode cX12_gapOf 10 = .ok (.sipush 401, 3) := by decide +kernel
theorem dX12_gapOf_13 : decode cX12_gapOf 13 = .ok (.if_icmp .ge 35, 3) := by decide +kernel
theorem dX12_gapOf_16 : decode cX12_gapOf 16 = .ok (.aload_n 0, 1) := by decide +kernel
theorem dX12_gapOf_17 : decode cX12_gapOf 17 = .ok (.iload_n 1, 1) := by decide +kernel
theorem dX12_gapOf_18 : decode cX12_gapOf 18 = .ok (.iload 5, 2) := by decide +kernel
theorem dX12_gapOf_20 : decode cX12_gapOf 20 = .ok (.invokevirtual 425, 3) := by decide +kernel
theorem dX12_gapOf_23 : decode cX12_gapOf 23 = .ok (.ifCond .eq 19, 3) := by decide +kernel
theorem dX12_gapOf_26 : decode cX12_gapOf 26 = .ok (.iload_n 3, 1) := by decide +kernel
theorem dX12_gapOf_27 : decode cX12_gapOf 27 = .ok (.ifCond .ne 8, 3) := by decide +kernel
theorem dX12_gapOf_30 : decode cX12_gapOf 30 = .ok (.iload 5, 2) := by decide +kernel
theorem dX12_gapOf_32 : decode cX12_gapOf 32 = .ok (.goto 5, 3) := by decide +kernel
theorem dX12_gapOf_35 : decode cX12_gapOf 35 = .ok (.iload 4, 2) := by decide +kernel
theorem dX12_gapOf_37 : decode cX12_gapOf 37 = .ok (.istore 4, 2) := by decide +kernel
theorem dX12_gapOf_39 : decode cX12_gapOf 39 = .ok (.iinc 3 1, 3) := by decide +kernel
theorem dX12_gapOf_42 : decode cX12_gapOf 42 = .ok (.iinc 5 1, 3) := by decide +kernel
theorem dX12_gapOf_45 : decode cX12_gapOf 45 = .ok (.goto (-37), 3) := by decide +kernel
theorem dX12_gapOf_48 : decode cX12_gapOf 48 = .ok (.iload_n 2, 1) := by decide +kernel
theorem dX12_gapOf_49 : decode cX12_gapOf 49 = .ok (.ifCond .ne 7, 3) := by decide +kernel
theorem dX12_gapOf_52 : decode cX12_gapOf 52 = .ok (.iload_n 3, 1) := by decide +kernel
theorem dX12_gapOf_53 : decode cX12_gapOf 53 = .ok (.goto 5, 3) := by decide +kernel
theorem dX12_gapOf_56 : decode cX12_gapOf 56 = .ok (.iload 4, 2) := by decide +kernel
theorem dX12_gapOf_58 : decode cX12_gapOf 58 = .ok (.ireturn, 1) := by decide +kernel
theorem dX12_together_0 : decode cX12_together 0 = .ok (.aload_n 0, 1) := by decide +kernel
theorem dX12_together_1 : decode cX12_together 1 = .ok (.iconst 0, 1) := by decide +kernel
theorem dX12_together_2 : decode cX12_together 2 = .ok (.putfield 88, 3) := by decide +kernel
theorem dX12_together_5 : decode cX12_together 5 = .ok (.aload_n 0, 1) := by decide +kernel
theorem dX12_together_6 : decode cX12_together 6 = .ok (.iload_n 1, 1) := by decide +kernel
theorem dX12_together_7 : decode cX12_together 7 = .ok (.invokevirtual 111, 3) := by decide +kernel
theorem dX12_together_10 : decode cX12_together 10 = .ok (.ifCond .eq 19, 3) := by decide +kernel
theorem dX12_together_13 : decode cX12_together 13 = .ok (.aload_n 0, 1) := by decide +kernel
theorem dX12_together_14 : decode cX12_together 14 = .ok (.iload_n 3, 1) := by decide +kernel
theorem dX12_together_15 : decode cX12_together 15 = .ok (.invokevirtual 111, 3) := by decide +kernel
theorem dX12_together_18 : decode cX12_together 18 = .ok (.ifCond .eq 11, 3) := by decide +kernel
theorem dX12_together_21 : decode cX12_together 21 = .ok (.iload 5, 2) := by decide +kernel
theorem dX12_together_23 : decode cX12_together 23 = .ok (.invokestatic 318, 3) := by decide +kernel
theorem dX12_together_26 : decode cX12_together 26 = .ok (.ifCond .ne 5, 3) := by decide +kernel
theorem dX12_together_29 : decode cX12_together 29 = .ok (.iconst (-1), 1) := by decide +kernel
theorem dX12_together_30 : decode cX12_together 30 = .ok (.ireturn, 1) := by decide +kernel
theorem dX12_together_31 : decode cX12_together 31 = .ok (.iload 5, 2) := by decide +kernel
theorem dX12_together_33 : decode cX12_together 33 = .ok (.istore 6, 2) := by decide +kernel
theorem dX12_together_35 : decode cX12_together 35 = .ok (.iload 6, 2) := by decide +kernel
theorem dX12_together_37 : decode cX12_together 37 = .ok (.iload 5, 2) := by decide +kernel
theorem dX12_together_39 : decode cX12_together 39 = .ok (.sipush 5000, 3) := by decide +kernel
theorem dX12_together_42 : decode cX12_together 42 = .ok (.iadd, 1) := by decide +kernel
theorem dX12_together_43 : decode cX12_together 43 = .ok (.if_icmp .gt 53, 3) := by decide +kernel
theorem dX12_together_46 : decode cX12_together 46 = .ok (.iload 6, 2) := by decide +kernel
theorem dX12_together_48 : decode cX12_together 48 = .ok (.ldc_w 428, 3) := by decide +kernel
theorem dX12_together_51 : decode cX12_together 51 = .ok (.if_icmp .gt 45, 3) := by decide +kernel
theorem dX12_together_54 : decode cX12_together 54 = .ok (.aload_n 0, 1) := by decide +kernel
theorem dX12_together_55 : decode cX12_together 55 = .ok (.iload_n 1, 1) := by decide +kernel
theorem dX12_together_56 : decode cX12_together 56 = .ok (.aload_n 0, 1) := by decide +kernel
theorem dX12_together_57 : decode cX12_together 57 = .ok (.iload_n 1, 1) := by decide +kernel
theorem dX12_together_58 : decode cX12_together 58 = .ok (.iload 6, 2) := by decide +kernel
theorem dX12_together_60 : decode cX12_together 60 = .ok (.invokevirtual 307, 3) := by decide +kernel
theorem dX12_together_63 : decode cX12_together 63 = .ok (.invokevirtual 349, 3) := by decide +kernel
theorem dX12_together_66 : decode cX12_together 66 = .ok (.iload_n 2, 1) := by decide +kernel
theorem dX12_together_67 : decode cX12_together 67 = .ok (.if_icmp .ne 23, 3) := by decide +kernel
theorem dX12_together_70 : decode cX12_together 70 = .ok (.aload_n 0, 1) := by decide +kernel
theorem dX12_together_71 : decode cX12_together 71 = .ok (.iload_n 3, 1) := by decide +kernel
theorem dX12_together_72 : decode cX12_together 72 = .ok (.aload_n 0, 1) := by decide +kernel
theorem dX12_together_73 : decode cX12_together 73 = .ok (.iload_n 3, 1) := by decide +kernel
theorem dX12_together_74 : decode cX12_together 74 = .ok (.iload 6, 2) := by decide +kernel
theorem dX12_together_76 : decode cX12_together 76 = .ok (.invokevirtual 307, 3) := by decide +kernel
theorem dX12_together_79 : decode cX12_together 79 = .ok (.invokevirtual 349, 3) := by decide +kernel
theorem dX12_together_82 : decode cX12_together 82 = .ok (.iload 4, 2) := by decide +kernel
theorem dX12_together_84 : decode cX12_together 84 = .ok (.if_icmp .ne 6, 3) := by decide +kernel
theorem dX12_together_87 : decode cX12_together 87 = .ok (.iload 6, 2) := by decide +kernel
theorem dX12_together_89 : decode cX12_together 89 = .ok (.ireturn, 1) := by decide +kernel
theorem dX12_together_90 : decode cX12_together 90 = .ok (.iinc 6 1, 3) := by decide +kernel
theorem dX12_together_93 : decode cX12_together 93 = .ok (.goto (-58), 3) := by decide +kernel
theorem dX12_together_96 : decode cX12_together 96 = .ok (.iconst (-1), 1) := by decide +kernel
theorem dX12_together_97 : decode cX12_together 97 = .ok (.ireturn, 1) := by decide +kernel
theorem dX12_gone2_0 : decode cX12_gone2 0 = .ok (.iload_n 2, 1) := by decide +kernel
theorem dX12_gone2_1 : decode cX12_gone2 1 = .ok (.i2l, 1) := by decide +kernel
theorem dX12_gone2_2 : decode cX12_gone2 2 = .ok (.aload_n 0, 1) := by decide +kernel
theorem dX12_gone2_3 : decode cX12_gone2 3 = .ok (.iload_n 1, 1) := by decide +kernel
theorem dX12_gone2_4 : decode cX12_gone2 4 = .ok (.iconst 2, 1) := by decide +kernel
theorem dX12_gone2_5 : decode cX12_gone2 5 = .ok (.invokevirtual 115, 3) := by decide +kernel
theorem dX12_gone2_8 : decode cX12_gone2 8 = .ok (.invokestatic 418, 3) := by decide +kernel
theorem dX12_gone2_11 : decode cX12_gone2 11 = .ok (.lreturn, 1) := by decide +kernel
theorem dX12_knob_0 : decode cX12_knob 0 = .ok (.aload_n 0, 1) := by decide +kernel
theorem dX12_knob_1 : decode cX12_knob 1 = .ok (.iconst 0, 1) := by decide +kernel
theorem dX12_knob_2 : decode cX12_knob 2 = .ok (.putfield 88, 3) := by decide +kernel
theorem dX12_knob_5 : decode cX12_knob 5 = .ok (.aload_n 0, 1) := by decide +kernel
theorem dX12_knob_6 : decode cX12_knob 6 = .ok (.getfield 13, 3) := by decide +kernel
theorem dX12_knob_9 : decode cX12_knob 9 = .ok (.iconst 5, 1) := by decide +kernel
theorem dX12_knob_10 : decode cX12_knob 10 = .ok (.iaload, 1) := by decide +kernel
theorem dX12_knob_11 : decode cX12_knob 11 = .ok (.istore_n 1, 1) := by decide +kernel
theorem dX12_knob_12 : decode cX12_knob 12 = .ok (.iload_n 1, 1) := by decide +kernel
theorem dX12_knob_13 : decode cX12_knob 13 = .ok (.iconst 4, 1) := by decide +kernel
theorem dX12_knob_14 : decode cX12_knob 14 = .ok (.if_icmp .ne 10, 3) := by decide +kernel
theorem dX12_knob_17 : decode cX12_knob 17 = .ok (.aload_n 0, 1) := by decide +kernel
theorem dX12_knob_18 : decode cX12_knob 18 = .ok (.bipush (-5), 2) := by decide +kernel
theorem dX12_knob_20 : decode cX12_knob 20 = .ok (.invokevirtual 102, 3) := by decide +kernel
theorem dX12_knob_23 : decode cX12_knob 23 = .ok (.ireturn, 1) := by decide +kernel
theorem dX12_knob_24 : decode cX12_knob 24 = .ok (.iconst 0, 1) := by decide +kernel
theorem dX12_knob_25 : decode cX12_knob 25 = .ok (.istore_n 2, 1) := by decide +kernel
theorem dX12_knob_26 : decode cX12_knob 26 = .ok (.iload_n 2, 1) := by decide +kernel
theorem dX12_knob_27 : decode cX12_knob 27 = .ok (.bipush 6, 2) := by decide +kernel
theorem dX12_knob_29 : decode cX12_knob 29 = .ok (.if_icmp .ge 24, 3) := by decide +kernel
theorem dX12_knob_32 : decode cX12_knob 32 = .ok (.aload_n 0, 1) := by decide +kernel
theorem dX12_knob_33 : decode cX12_knob 33 = .ok (.getfield 13, 3) := by decide +kernel
theorem dX12_knob_36 : decode cX12_knob 36 = .ok (.bipush 124, 2) := by decide +kernel
theorem dX12_knob_38 : decode cX12_knob 38 = .ok (.bipush 6, 2) := by decide +kernel
theorem dX12_knob_40 : decode cX12_knob 40 = .ok (.iload_n 1, 1) := by decide +kernel
theorem dX12_knob_41 : decode cX12_knob 41 = .ok (.imul, 1) := by decide +kernel
theorem dX12_knob_42 : decode cX12_knob 42 = .ok (.iadd, 1) := by decide +kernel
theorem dX12_knob_43 : decode cX12_knob 43 = .ok (.iload_n 2, 1) := by decide +kernel
theorem dX12_knob_44 : decode cX12_knob 44 = .ok (.iadd, 1) := by decide +kernel
theorem dX12_knob_45 : decode cX12_knob 45 = .ok (.iconst 0, 1) := by decide +kernel
theorem dX12_knob_46 : decode cX12_knob 46 = .ok (.iastore, 1) := by decide +kernel
theorem dX12_knob_47 : decode cX12_knob 47 = .ok (.iinc 2 1, 3) := by decide +kernel
theorem dX12_knob_50 : decode cX12_knob 50 = .ok (.goto (-24), 3) := by decide +kernel
theorem dX12_knob_53 : decode cX12_knob 53 = .ok (.aload_n 0, 1) := by decide +kernel
theorem dX12_knob_54 : decode cX12_knob 54 = .ok (.getfield 13, 3) := by decide +kernel
theorem dX12_knob_57 : decode cX12_knob 57 = .ok (.iconst 5, 1) := by decide +kernel
theorem dX12_knob_58 : decode cX12_knob 58 = .ok (.dup2, 1) := by decide +kernel
theorem dX12_knob_59 : decode cX12_knob 59 = .ok (.iaload, 1) := by decide +kernel
theorem dX12_knob_60 : decode cX12_knob 60 = .ok (.iconst 1, 1) := by decide +kernel
theorem dX12_knob_61 : decode cX12_knob 61 = .ok (.iadd, 1) := by decide +kernel
theorem dX12_knob_62 : decode cX12_knob 62 = .ok (.iastore, 1) := by decide +kernel
theorem dX12_knob_63 : decode cX12_knob 63 = .ok (.aload_n 0, 1) := by decide +kernel
theorem dX12_knob_64 : decode cX12_knob 64 = .ok (.iload_n 1, 1) := by decide +kernel
theorem dX12_knob_65 : decode cX12_knob 65 = .ok (.invokevirtual 102, 3) := by decide +kernel
theorem dX12_knob_68 : decode cX12_knob 68 = .ok (.ireturn, 1) := by decide +kernel
theorem dX12_push__0 : decode cX12_push_ 0 = .ok (.aload_n 0, 1) := by decide +kernel
theorem dX12_push__1 : decode cX12_push_ 1 = .ok (.iconst 0, 1) := by decide +kernel
theorem dX12_push__2 : decode cX12_push_ 2 = .ok (.putfield 88, 3) := by decide +kernel
theorem dX12_push__5 : decode cX12_push_ 5 = .ok (.iload_n 3, 1) := by decide +kernel
theorem dX12_push__6 : decode cX12_push_ 6 = .ok (.i2l, 1) := by decide +kernel
theorem dX12_push__7 : decode cX12_push_ 7 = .ok (.lconst 0, 1) := by decide +kernel
theorem dX12_push__8 : decode cX12_push_ 8 = .ok (.ldc2_w 429, 3) := by decide +kernel
theorem dX12_push__11 : decode cX12_push_ 11 = .ok (.invokestatic 98, 3) := by decide +kernel
theorem dX12_push__14 : decode cX12_push_ 14 = .ok (.ifCond .ne 9, 3) := by decide +kernel
theorem dX12_push__17 : decode cX12_push_ 17 = .ok (.aload_n 0, 1) := by decide +kernel
theorem dX12_push__18 : decode cX12_push_ 18 = .ok (.iconst (-1), 1) := by decide +kernel
theorem dX12_push__19 : decode cX12_push_ 19 = .ok (.invokevirtual 102, 3) := by decide +kernel
theorem dX12_push__22 : decode cX12_push_ 22 = .ok (.ireturn, 1) := by decide +kernel
theorem dX12_push__23 : decode cX12_push_ 23 = .ok (.iload_n 1, 1) := by decide +kernel
theorem dX12_push__24 : decode cX12_push_ 24 = .ok (.i2l, 1) := by decide +kernel
theorem dX12_push__25 : decode cX12_push_ 25 = .ok (.lconst 0, 1) := by decide +kernel
theorem dX12_push__26 : decode cX12_push_ 26 = .ok (.aload_n 0, 1) := by decide +kernel
theorem dX12_push__27 : decode cX12_push_ 27 = .ok (.getfield 13, 3) := by decide +kernel
theorem dX12_push__30 : decode cX12_push_ 30 = .ok (.iconst 5, 1) := by decide +kernel
theorem dX12_push__31 : decode cX12_push_ 31 = .ok (.iaload, 1) := by decide +kernel
theorem dX12_push__32 : decode cX12_push_ 32 = .ok (.i2l, 1) := by decide +kernel
theorem dX12_push__33 : decode cX12_push_ 33 = .ok (.lconst 1, 1) := by decide +kernel
theorem dX12_push__34 : decode cX12_push_ 34 = .ok (.lsub, 1) := by decide +kernel
theorem dX12_push__35 : decode cX12_push_ 35 = .ok (.invokestatic 98, 3) := by decide +kernel
theorem dX12_push__38 : decode cX12_push_ 38 = .ok (.ifCond .eq 28, 3) := by decide +kernel
theorem dX12_push__41 : decode cX12_push_ 41 = .ok (.aload_n 0, 1) := by decide +kernel
theorem dX12_push__42 : decode cX12_push_ 42 = .ok (.iload_n 2, 1) := by decide +kernel
theorem dX12_push__43 : decode cX12_push_ 43 = .ok (.invokevirtual 111, 3) := by decide +kernel
theorem dX12_push__46 : decode cX12_push_ 46 = .ok (.ifCond .eq 20, 3) := by decide +kernel
theorem dX12_push__49 : decode cX12_push_ 49 = .ok (.aload_n 0, 1) := by decide +kernel
theorem dX12_push__50 : decode cX12_push_ 50 = .ok (.bipush 124, 2) := by decide +kernel
theorem dX12_push__52 : decode cX12_push_ 52 = .ok (.bipush 6, 2) := by decide +kernel
theorem dX12_push__54 : decode cX12_push_ 54 = .ok (.iload_n 1, 1) := by decide +kernel
theorem dX12_push__55 : decode cX12_push_ 55 = .ok (.imul, 1) := by decide +kernel
theorem dX12_push__56 : decode cX12_push_ 56 = .ok (.iadd, 1) := by decide +kernel
theorem dX12_push__57 : decode cX12_push_ 57 = .ok (.iload_n 2, 1) := by decide +kernel
theorem dX12_push__58 : decode cX12_push_ 58 = .ok (.iadd, 1) := by decide +kernel
theorem dX12_push__59 : decode cX12_push_ 59 = .ok (.iload_n 3, 1) := by decide +kernel
theorem dX12_push__60 : decode cX12_push_ 60 = .ok (.invokevirtual 119, 3) := by decide +kernel
theorem dX12_push__63 : decode cX12_push_ 63 = .ok (.goto 9, 3) := by decide +kernel
theorem dX12_push__66 : decode cX12_push_ 66 = .ok (.aload_n 0, 1) := by decide +kernel
theorem dX12_push__67 : decode cX12_push_ 67 = .ok (.bipush (-2), 2) := by decide +kernel
theorem dX12_push__69 : decode cX12_push_ 69 = .ok (.invokevirtual 102, 3) := by decide +kernel
theorem dX12_push__72 : decode cX12_push_ 72 = .ok (.ireturn, 1) := by decide +kernel
theorem dX12_findPushes_0 : decode cX12_findPushes 0 = .ok (.aload_n 0, 1) := by decide +kernel
theorem dX12_findPushes_1 : decode cX12_findPushes 1 = .ok (.iload_n 2, 1) := by decide +kernel
theorem dX12_findPushes_2 : decode cX12_findPushes 2 = .ok (.iconst 0, 1) := by decide +kernel
theorem dX12_findPushes_3 : decode cX12_findPushes 3 = .ok (.invokevirtual 115, 3) := by decide +kernel
theorem dX12_findPushes_6 : decode cX12_findPushes 6 = .ok (.istore 5, 2) := by decide +kernel
theorem dX12_findPushes_8 : decode cX12_findPushes 8 = .ok (.aload_n 0, 1) := by decide +kernel
theorem dX12_findPushes_9 : decode cX12_findPushes 9 = .ok (.iload_n 3, 1) := by decide +kernel
theorem dX12_findPushes_10 : decode cX12_findPushes 10 = .ok (.iconst 0, 1) := by decide +kernel
theorem dX12_findPushes_11 : decode cX12_findPushes 11 = .ok (.invokevirtual 115, 3) := by decide +kernel
theorem dX12_findPushes_14 : decode cX12_findPushes 14 = .ok (.istore 6, 2) := by decide +kernel
theorem dX12_findPushes_16 : decode cX12_findPushes 16 = .ok (.ldc 78, 2) := by decide +kernel
theorem dX12_findPushes_18 : decode cX12_findPushes 18 = .ok (.iload_n 1, 1) := by decide +kernel
theorem dX12_findPushes_19 : decode cX12_findPushes 19 = .ok (.imul, 1) := by decide +kernel
theorem dX12_findPushes_20 : decode cX12_findPushes 20 = .ok (.istore 7, 2) := by decide +kernel
theorem dX12_findPushes_22 : decode cX12_findPushes 22 = .ok (.iconst 0, 1) := by decide +kernel
theorem dX12_findPushes_23 : decode cX12_findPushes 23 = .ok (.istore 8, 2) := by decide +kernel
theorem dX12_findPushes_25 : decode cX12_findPushes 25 = .ok (.iload 8, 2) := by decide +kernel
theorem dX12_findPushes_27 : decode cX12_findPushes 27 = .ok (.iload 5, 2) := by decide +kernel
theorem dX12_findPushes_29 : decode cX12_findPushes 29 = .ok (.iload 6, 2) := by decide +kernel
theorem dX12_findPushes_31 : decode cX12_findPushes 31 = .ok (.imul, 1) := by decide +kernel
theorem dX12_findPushes_32 : decode cX12_findPushes 32 = .ok (.if_icmp .ge 22, 3) := by decide +kernel
theorem dX12_findPushes_35 : decode cX12_findPushes 35 = .ok (.aload_n 0, 1) := by decide +kernel
theorem dX12_findPushes_36 : decode cX12_findPushes 36 = .ok (.getfield 75, 3) := by decide +kernel
theorem dX12_findPushes_39 : decode cX12_findPushes 39 = .ok (.iload 7, 2) := by decide +kernel
theorem dX12_findPushes_41 : decode cX12_findPushes 41 = .ok (.iload 8, 2) := by decide +kernel
theorem dX12_findPushes_43 : decode cX12_findPushes 43 = .ok (.iadd, 1) := by decide +kernel
theorem dX12_findPushes_44 : decode cX12_findPushes 44 = .ok (.ldc_w 431, 3) := by decide +kernel
theorem dX12_findPushes_47 : decode cX12_findPushes 47 = .ok (.iastore, 1) := by decide +kernel
theorem dX12_findPushes_48 : decode cX12_findPushes 48 = .ok (.iinc 8 1, 3) := by decide +kernel
theorem dX12_findPushes_51 : decode cX12_findPushes 51 = .ok (.goto (-26), 3) := by decide +kernel
theorem dX12_findPushes_54 : decode cX12_findPushes 54 = .ok (.aload_n 0, 1) := by decide +kernel
theorem dX12_findPushes_55 : decode cX12_findPushes 55 = .ok (.getfield 75, 3) := by decide +kernel
theorem dX12_findPushes_58 : decode cX12_findPushes 58 = .ok (.iload 7, 2) := by decide +kernel
theorem dX12_findPushes_60 : decode cX12_findPushes 60 = .ok (.iload 4, 2) := by decide +kernel
theorem dX12_findPushes_62 : decode cX12_findPushes 62 = .ok (.iadd, 1) := by decide +kernel
theorem dX12_findPushes_63 : decode cX12_findPushes 63 = .ok (.iconst 0, 1) := by decide +kernel
theorem dX12_findPushes_64 : decode cX12_findPushes 64 = .ok (.iastore, 1) := by decide +kernel
theorem dX12_findPushes_65 : decode cX12_findPushes 65 = .ok (.aload_n 0, 1) := by decide +kernel
theorem dX12_findPushes_66 : decode cX12_findPushes 66 = .ok (.getfield 79, 3) := by decide +kernel
theorem dX12_findPushes_69 : decode cX12_findPushes 69 = .ok (.iconst 0, 1) := by decide +kernel
theorem dX12_findPushes_70 : decode cX12_findPushes 70 = .ok (.iload 4, 2) := by decide +kernel
theorem dX12_findPushes_72 : decode cX12_findPushes 72 = .ok (.iastore, 1) := by decide +kernel
theorem dX12_findPushes_73 : decode cX12_findPushes 73 = .ok (.iconst 1, 1) := by decide +kernel
theorem dX12_findPushes_74 : decode cX12_findPushes 74 = .ok (.istore 8, 2) := by decide +kernel
theorem dX12_findPushes_76 : decode cX12_findPushes 76 = .ok (.iconst 0, 1) := by decide +kernel
theorem dX12_findPushes_77 : decode cX12_findPushes 77 = .ok (.istore 9, 2) := by decide +kernel
theorem dX12_findPushes_79 : decode cX12_findPushes 79 = .ok (.iload 9, 2) := by decide +kernel
theorem dX12_findPushes_81 : decode cX12_findPushes 81 = .ok (.iload 8, 2) := by decide +kernel
theorem dX12_findPushes_83 : decode cX12_findPushes 83 = .ok (.if_icmp .ge 170, 3) := by decide +kernel
theorem dX12_findPushes_86 : decode cX12_findPushes 86 = .ok (.aload_n 0, 1) := by decide +kernel
theorem dX12_findPushes_87 : decode cX12_findPushes 87 = .ok (.getfield 79, 3) := by decide +kernel
theorem dX12_findPushes_90 : decode cX12_findPushes 90 = .ok (.iload 9, 2) := by decide +kernel
theorem dX12_findPushes_92 : decode cX12_findPushes 92 = .ok (.iaload, 1) := by decide +kernel
theorem dX12_findPushes_93 : decode cX12_findPushes 93 = .ok (.istore 10, 2) := by decide +kernel
theorem dX12_findPushes_95 : decode cX12_findPushes 95 = .ok (.iload_n 1, 1) := by decide +kernel
theorem dX12_findPushes_96 : decode cX12_findPushes 96 = .ok (.istore 11, 2) := by decide +kernel
theorem dX12_findPushes_98 : decode cX12_findPushes 98 = .ok (.iload 11, 2) := by decide +kernel
theorem dX12_findPushes_100 : decode cX12_findPushes 100 = .ok (.aload_n 0, 1) := by decide +kernel
theorem dX12_findPushes_101 : decode cX12_findPushes 101 = .ok (.getfield 13, 3) := by decide +kernel
theorem dX12_findPushes_104 : decode cX12_findPushes 104 = .ok (.iconst 5, 1) := by decide +kernel
theorem dX12_findPushes_105 : decode cX12_findPushes 105 = .ok (.iaload, 1) := by decide +kernel
theorem dX12_findPushes_106 : decode cX12_findPushes 106 = .ok (.if_icmp .ge 141, 3) := by decide +kernel
theorem dX12_findPushes_109 : decode cX12_findPushes 109 = .ok (.iload 10, 2) := by decide +kernel
theorem dX12_findPushes_111 : decode cX12_findPushes 111 = .ok (.iload 6, 2) := by decide +kernel
theorem dX12_findPushes_113 : decode cX12_findPushes 113 = .ok (.idiv, 1) := by decide +kernel
theorem dX12_findPushes_114 : decode cX12_findPushes 114 = .ok (.bipush 9, 2) := by decide +kernel
theorem dX12_findPushes_116 : decode cX12_findPushes 116 = .ok (.iload 5, 2) := by decide +kernel
theorem dX12_findPushes_118 : decode cX12_findPushes 118 = .ok (.imul, 1) := by decide +kernel
theorem dX12_findPushes_119 : decode cX12_findPushes 119 = .ok (.iadd, 1) := by decide +kernel
theorem dX12_findPushes_120 : decode cX12_findPushes 120 = .ok (.aload_n 0, 1) := by decide +kernel
theorem dX12_findPushes_121 : decode cX12_findPushes 121 = .ok (.getfield 13, 3) := by decide +kernel
theorem dX12_findPushes_124 : decode cX12_findPushes 124 = .ok (.bipush 124, 2) := by decide +kernel
theorem dX12_findPushes_126 : decode cX12_findPushes 126 = .ok (.bipush 6, 2) := by decide +kernel
theorem dX12_findPushes_128 : decode cX12_findPushes 128 = .ok (.iload 11, 2) := by decide +kernel
theorem dX12_findPushes_130 : decode cX12_findPushes 130 = .ok (.imul, 1) := by decide +kernel
theorem dX12_findPushes_131 : decode cX12_findPushes 131 = .ok (.iadd, 1) := by decide +kernel
theorem dX12_findPushes_132 : decode cX12_findPushes 132 = .ok (.iload_n 2, 1) := by decide +kernel
theorem dX12_findPushes_133 : decode cX12_findPushes 133 = .ok (.iadd, 1) := by decide +kernel
theorem dX12_findPushes_134 : decode cX12_findPushes 134 = .ok (.iaload, 1) := by decide +kernel
theorem dX12_findPushes_135 : decode cX12_findPushes 135 = .ok (.isub, 1) := by decide +kernel
theorem dX12_findPushes_136 : decode cX12_findPushes 136 = .ok (.iload 5, 2) := by decide +kernel
theorem dX12_findPushes_138 : decode cX12_findPushes 138 = .ok (.irem, 1) := by decide +kernel
theorem dX12_findPushes_139 : decode cX12_findPushes 139 = .ok (.istore 12, 2) := by decide +kernel
theorem dX12_findPushes_141 : decode cX12_findPushes 141 = .ok (.iload 10, 2) := by decide +kernel
theorem dX12_findPushes_143 : decode cX12_findPushes 143 = .ok (.iload 6, 2) := by decide +kernel
theorem dX12_findPushes_145 : decode cX12_findPushes 145 = .ok (.irem, 1) := by decide +kernel
theorem dX12_findPushes_146 : decode cX12_findPushes 146 = .ok (.bipush 9, 2) := by decide +kernel
theorem dX12_findPushes_148 : decode cX12_findPushes 148 = .ok (.iload 6, 2) := by decide +kernel
theorem dX12_findPushes_150 : decode cX12_findPushes 150 = .ok (.imul, 1) := by decide +kernel
theorem dX12_findPushes_151 : decode cX12_findPushes 151 = .ok (.iadd, 1) := by decide +kernel
theorem dX12_findPushes_152 : decode cX12_findPushes 152 = .ok (.aload_n 0, 1) := by decide +kernel
theorem dX12_findPushes_153 : decode cX12_findPushes 153 = .ok (.getfield 13, 3) := by decide +kernel
theorem dX12_findPushes_156 : decode cX12_findPushes 156 = .ok (.bipush 124, 2) := by decide +kernel
theorem dX12_findPushes_158 : decode cX12_findPushes 158 = .ok (.bipush 6, 2) := by decide +kernel
theorem dX12_findPushes_160 : decode cX12_findPushes 160 = .ok (.iload 11, 2) := by decide +kernel
theorem dX12_findPushes_162 : decode cX12_findPushes 162 = .ok (.imul, 1) := by decide +kernel
theorem dX12_findPushes_163 : decode cX12_findPushes 163 = .ok (.iadd, 1) := by decide +kernel
theorem dX12_findPushes_164 : decode cX12_findPushes 164 = .ok (.iload_n 3, 1) := by decide +kernel
theorem dX12_findPushes_165 : decode cX12_findPushes 165 = .ok (.iadd, 1) := by decide +kernel
theorem dX12_findPushes_166 : decode cX12_findPushes 166 = .ok (.iaload, 1) := by decide +kernel
theorem dX12_findPushes_167 : decode cX12_findPushes 167 = .ok (.isub, 1) := by decide +kernel
theorem dX12_findPushes_168 : decode cX12_findPushes 168 = .ok (.iload 6, 2) := by decide +kernel
theorem dX12_findPushes_170 : decode cX12_findPushes 170 = .ok (.irem, 1) := by decide +kernel
theorem dX12_findPushes_171 : decode cX12_findPushes 171 = .ok (.istore 13, 2) := by decide +kernel
theorem dX12_findPushes_173 : decode cX12_findPushes 173 = .ok (.aload_n 0, 1) := by decide +kernel
theorem dX12_findPushes_174 : decode cX12_findPushes 174 = .ok (.getfield 75, 3) := by decide +kernel
theorem dX12_findPushes_177 : decode cX12_findPushes 177 = .ok (.iload 7, 2) := by decide +kernel
theorem dX12_findPushes_179 : decode cX12_findPushes 179 = .ok (.iload 12, 2) := by decide +kernel
theorem dX12_findPushes_181 : decode cX12_findPushes 181 = .ok (.iload 6, 2) := by decide +kernel
theorem dX12_findPushes_183 : decode cX12_findPushes 183 = .ok (.imul, 1) := by decide +kernel
theorem dX12_findPushes_184 : decode cX12_findPushes 184 = .ok (.iadd, 1) := by decide +kernel
theorem dX12_findPushes_185 : decode cX12_findPushes 185 = .ok (.iload 13, 2) := by decide +kernel
theorem dX12_findPushes_187 : decode cX12_findPushes 187 = .ok (.iadd, 1) := by decide +kernel
theorem dX12_findPushes_188 : decode cX12_findPushes 188 = .ok (.iaload, 1) := by decide +kernel
theorem dX12_findPushes_189 : decode cX12_findPushes 189 = .ok (.ldc_w 431, 3) := by decide +kernel
theorem dX12_findPushes_192 : decode cX12_findPushes 192 = .ok (.if_icmp .ne 49, 3) := by decide +kernel
theorem dX12_findPushes_195 : decode cX12_findPushes 195 = .ok (.aload_n 0, 1) := by decide +kernel
theorem dX12_findPushes_196 : decode cX12_findPushes 196 = .ok (.getfield 75, 3) := by decide +kernel
theorem dX12_findPushes_199 : decode cX12_findPushes 199 = .ok (.iload 7, 2) := by decide +kernel
theorem dX12_findPushes_201 : decode cX12_findPushes 201 = .ok (.iload 12, 2) := by decide +kernel
theorem dX12_findPushes_203 : decode cX12_findPushes 203 = .ok (.iload 6, 2) := by decide +kernel
theorem dX12_findPushes_205 : decode cX12_findPushes 205 = .ok (.imul, 1) := by decide +kernel
theorem dX12_findPushes_206 : decode cX12_findPushes 206 = .ok (.iadd, 1) := by decide +kernel
theorem dX12_findPushes_207 : decode cX12_findPushes 207 = .ok (.iload 13, 2) := by decide +kernel
theorem dX12_findPushes_209 : decode cX12_findPushes 209 = .ok (.iadd, 1) := by decide +kernel
theorem dX12_findPushes_210 : decode cX12_findPushes 210 = .ok (.aload_n 0, 1) := by decide +kernel
theorem dX12_findPushes_211 : decode cX12_findPushes 211 = .ok (.getfield 75, 3) := by decide +kernel
theorem dX12_findPushes_214 : decode cX12_findPushes 214 = .ok (.iload 7, 2) := by decide +kernel
theorem dX12_findPushes_216 : decode cX12_findPushes 216 = .ok (.iload 10, 2) := by decide +kernel
theorem dX12_findPushes_218 : decode cX12_findPushes 218 = .ok (.iadd, 1) := by decide +kernel
theorem dX12_findPushes_219 : decode cX12_findPushes 219 = .ok (.iaload, 1) := by decide +kernel
theorem dX12_findPushes_220 : decode cX12_findPushes 220 = .ok (.iconst 1, 1) := by decide +kernel
theorem dX12_findPushes_221 : decode cX12_findPushes 221 = .ok (.iadd, 1) := by decide +kernel
theorem dX12_findPushes_222 : decode cX12_findPushes 222 = .ok (.iastore, 1) := by decide +kernel
theorem dX12_findPushes_223 : decode cX12_findPushes 223 = .ok (.aload_n 0, 1) := by decide +kernel
theorem dX12_findPushes_224 : decode cX12_findPushes 224 = .ok (.getfield 79, 3) := by decide +kernel
theorem dX12_findPushes_227 : decode cX12_findPushes 227 = .ok (.iload 8, 2) := by decide +kernel
theorem dX12_findPushes_229 : decode cX12_findPushes 229 = .ok (.iload 12, 2) := by decide +kernel
theorem dX12_findPushes_231 : decode cX12_findPushes 231 = .ok (.iload 6, 2) := by decide +kernel
theorem dX12_findPushes_233 : decode cX12_findPushes 233 = .ok (.imul, 1) := by decide +kernel
theorem dX12_findPushes_234 : decode cX12_findPushes 234 = .ok (.iload 13, 2) := by decide +kernel
theorem dX12_findPushes_236 : decode cX12_findPushes 236 = .ok (.iadd, 1) := by decide +kernel
theorem dX12_findPushes_237 : decode cX12_findPushes 237 = .ok (.iastore, 1) := by decide +kernel
theorem dX12_findPushes_238 : decode cX12_findPushes 238 = .ok (.iinc 8 1, 3) := by decide +kernel
theorem dX12_findPushes_241 : decode cX12_findPushes 241 = .ok (.iinc 11 1, 3) := by decide +kernel
theorem dX12_findPushes_244 : decode cX12_findPushes 244 = .ok (.goto (-146), 3) := by decide +kernel
theorem dX12_findPushes_247 : decode cX12_findPushes 247 = .ok (.iinc 9 1, 3) := by decide +kernel
theorem dX12_findPushes_250 : decode cX12_findPushes 250 = .ok (.goto (-171), 3) := by decide +kernel
theorem dX12_findPushes_253 : decode cX12_findPushes 253 = .ok (.return_, 1) := by decide +kernel
theorem dX12_set_0 : decode cX12_set 0 = .ok (.aload_n 0, 1) := by decide +kernel
theorem dX12_set_1 : decode cX12_set 1 = .ok (.iconst 0, 1) := by decide +kernel
theorem dX12_set_2 : decode cX12_set 2 = .ok (.putfield 88, 3) := by decide +kernel
theorem dX12_set_5 : decode cX12_set 5 = .ok (.aload_n 0, 1) := by decide +kernel
theorem dX12_set_6 : decode cX12_set 6 = .ok (.iload_n 1, 1) := by decide +kernel
theorem dX12_set_7 : decode cX12_set 7 = .ok (.invokevirtual 111, 3) := by decide +kernel
theorem dX12_set_10 : decode cX12_set 10 = .ok (.ifCond .eq 41, 3) := by decide +kernel
theorem dX12_set_13 : decode cX12_set 13 = .ok (.aload_n 0, 1) := by decide +kernel
theorem dX12_set_14 : decode cX12_set 14 = .ok (.iload_n 3, 1) := by decide +kernel
theorem dX12_set_15 : decode cX12_set 15 = .ok (.invokevirtual 111, 3) := by decide +kernel
theorem dX12_set_18 : decode cX12_set 18 = .ok (.ifCond .eq 33, 3) := by decide +kernel
theorem dX12_set_21 : decode cX12_set 21 = .ok (.iload_n 1, 1) := by decide +kernel
theorem dX12_set_22 : decode cX12_set 22 = .ok (.iload_n 3, 1) := by decide +kernel
theorem dX12_set_23 : decode cX12_set 23 = .ok (.if_icmp .eq 28, 3) := by decide +kernel
theorem dX12_set_26 : decode cX12_set 26 = .ok (.iload 5, 2) := by decide +kernel
theorem dX12_set_28 : decode cX12_set 28 = .ok (.invokestatic 318, 3) := by decide +kernel
theorem dX12_set_31 : decode cX12_set 31 = .ok (.ifCond .eq 20, 3) := by decide +kernel
theorem dX12_set_34 : decode cX12_set 34 = .ok (.iload 6, 2) := by decide +kernel
theorem dX12_set_36 : decode cX12_set 36 = .ok (.i2l, 1) := by decide +kernel
theorem dX12_set_37 : decode cX12_set 37 = .ok (.lconst 0, 1) := by decide +kernel
theorem dX12_set_38 : decode cX12_set 38 = .ok (.aload_n 0, 1) := by decide +kernel
theorem dX12_set_39 : decode cX12_set 39 = .ok (.getfield 13, 3) := by decide +kernel
theorem dX12_set_42 : decode cX12_set 42 = .ok (.iconst 5, 1) := by decide +kernel
theorem dX12_set_43 : decode cX12_set 43 = .ok (.iaload, 1) := by decide +kernel
theorem dX12_set_44 : decode cX12_set 44 = .ok (.i2l, 1) := by decide +kernel
theorem dX12_set_45 : decode cX12_set 45 = .ok (.invokestatic 98, 3) := by decide +kernel
theorem dX12_set_48 : decode cX12_set 48 = .ok (.ifCond .ne 5, 3) := by decide +kernel
theorem dX12_set_51 : decode cX12_set 51 = .ok (.iconst (-1), 1) := by decide +kernel
theorem dX12_set_52 : decode cX12_set 52 = .ok (.ireturn, 1) := by decide +kernel
theorem dX12_set_53 : decode cX12_set 53 = .ok (.aload_n 0, 1) := by decide +kernel
theorem dX12_set_54 : decode cX12_set 54 = .ok (.iload_n 1, 1) := by decide +kernel
theorem dX12_set_55 : decode cX12_set 55 = .ok (.iconst 0, 1) := by decide +kernel
theorem dX12_set_56 : decode cX12_set 56 = .ok (.invokevirtual 115, 3) := by decide +kernel
theorem dX12_set_59 : decode cX12_set 59 = .ok (.istore 7, 2) := by decide +kernel
theorem dX12_set_61 : decode cX12_set 61 = .ok (.aload_n 0, 1) := by decide +kernel
theorem dX12_set_62 : decode cX12_set 62 = .ok (.iload_n 3, 1) := by decide +kernel
theorem dX12_set_63 : decode cX12_set 63 = .ok (.iconst 0, 1) := by decide +kernel
theorem dX12_set_64 : decode cX12_set 64 = .ok (.invokevirtual 115, 3) := by decide +kernel
theorem dX12_set_67 : decode cX12_set 67 = .ok (.istore 8, 2) := by decide +kernel
theorem dX12_set_69 : decode cX12_set 69 = .ok (.iload_n 2, 1) := by decide +kernel
theorem dX12_set_70 : decode cX12_set 70 = .ok (.i2l, 1) := by decide +kernel
theorem dX12_set_71 : decode cX12_set 71 = .ok (.lconst 0, 1) := by decide +kernel
theorem dX12_set_72 : decode cX12_set 72 = .ok (.iload 7, 2) := by decide +kernel
theorem dX12_set_74 : decode cX12_set 74 = .ok (.i2l, 1) := by decide +kernel
theorem dX12_set_75 : decode cX12_set 75 = .ok (.lconst 1, 1) := by decide +kernel
theorem dX12_set_76 : decode cX12_set 76 = .ok (.lsub, 1) := by decide +kernel
theorem dX12_set_77 : decode cX12_set 77 = .ok (.invokestatic 98, 3) := by decide +kernel
theorem dX12_set_80 : decode cX12_set 80 = .ok (.ifCond .eq 18, 3) := by decide +kernel
theorem dX12_set_83 : decode cX12_set 83 = .ok (.iload 4, 2) := by decide +kernel
theorem dX12_set_85 : decode cX12_set 85 = .ok (.i2l, 1) := by decide +kernel
theorem dX12_set_86 : decode cX12_set 86 = .ok (.lconst 0, 1) := by decide +kernel
theorem dX12_set_87 : decode cX12_set 87 = .ok (.iload 8, 2) := by decide +kernel
theorem dX12_set_89 : decode cX12_set 89 = .ok (.i2l, 1) := by decide +kernel
theorem dX12_set_90 : decode cX12_set 90 = .ok (.lconst 1, 1) := by decide +kernel
theorem dX12_set_91 : decode cX12_set 91 = .ok (.lsub, 1) := by decide +kernel
theorem dX12_set_92 : decode cX12_set 92 = .ok (.invokestatic 98, 3) := by decide +kernel
theorem dX12_set_95 : decode cX12_set 95 = .ok (.ifCond .ne 5, 3) := by decide +kernel
theorem dX12_set_98 : decode cX12_set 98 = .ok (.iconst (-1), 1) := by decide +kernel
theorem dX12_set_99 : decode cX12_set 99 = .ok (.ireturn, 1) := by decide +kernel
theorem dX12_set_100 : decode cX12_set 100 = .ok (.iconst 0, 1) := by decide +kernel
theorem dX12_set_101 : decode cX12_set 101 = .ok (.istore 9, 2) := by decide +kernel
theorem dX12_set_103 : decode cX12_set 103 = .ok (.iload 9, 2) := by decide +kernel
theorem dX12_set_105 : decode cX12_set 105 = .ok (.aload_n 0, 1) := by decide +kernel
theorem dX12_set_106 : decode cX12_set 106 = .ok (.getfield 13, 3) := by decide +kernel
theorem dX12_set_109 : decode cX12_set 109 = .ok (.iconst 5, 1) := by decide +kernel
theorem dX12_set_110 : decode cX12_set 110 = .ok (.iaload, 1) := by decide +kernel
theorem dX12_set_111 : decode cX12_set 111 = .ok (.if_icmp .gt 24, 3) := by decide +kernel
theorem dX12_set_114 : decode cX12_set 114 = .ok (.aload_n 0, 1) := by decide +kernel
theorem dX12_set_115 : decode cX12_set 115 = .ok (.iload 9, 2) := by decide +kernel
theorem dX12_set_117 : decode cX12_set 117 = .ok (.iload_n 1, 1) := by decide +kernel
theorem dX12_set_118 : decode cX12_set 118 = .ok (.iload_n 3, 1) := by decide +kernel
theorem dX12_set_119 : decode cX12_set 119 = .ok (.iload_n 2, 1) := by decide +kernel
theorem dX12_set_120 : decode cX12_set 120 = .ok (.iload 8, 2) := by decide +kernel
theorem dX12_set_122 : decode cX12_set 122 = .ok (.imul, 1) := by decide +kernel
theorem dX12_set_123 : decode cX12_set 123 = .ok (.iload 4, 2) := by decide +kernel
theorem dX12_set_125 : decode cX12_set 125 = .ok (.iadd, 1) := by decide +kernel
theorem dX12_set_126 : decode cX12_set 126 = .ok (.invokevirtual 432, 3) := by decide +kernel
theorem dX12_set_129 : decode cX12_set 129 = .ok (.iinc 9 1, 3) := by decide +kernel
theorem dX12_set_132 : decode cX12_set 132 = .ok (.goto (-29), 3) := by decide +kernel
theorem dX12_set_135 : decode cX12_set 135 = .ok (.aload_n 0, 1) := by decide +kernel
theorem dX12_set_136 : decode cX12_set 136 = .ok (.iload_n 1, 1) := by decide +kernel
theorem dX12_set_137 : decode cX12_set 137 = .ok (.aload_n 0, 1) := by decide +kernel
theorem dX12_set_138 : decode cX12_set 138 = .ok (.iload_n 1, 1) := by decide +kernel
theorem dX12_set_139 : decode cX12_set 139 = .ok (.iload 5, 2) := by decide +kernel
theorem dX12_set_141 : decode cX12_set 141 = .ok (.invokevirtual 307, 3) := by decide +kernel
theorem dX12_set_144 : decode cX12_set 144 = .ok (.invokevirtual 349, 3) := by decide +kernel
theorem dX12_set_147 : decode cX12_set 147 = .ok (.istore 9, 2) := by decide +kernel
theorem dX12_set_149 : decode cX12_set 149 = .ok (.aload_n 0, 1) := by decide +kernel
theorem dX12_set_150 : decode cX12_set 150 = .ok (.iload_n 3, 1) := by decide +kernel
theorem dX12_set_151 : decode cX12_set 151 = .ok (.aload_n 0, 1) := by decide +kernel
theorem dX12_set_152 : decode cX12_set 152 = .ok (.iload_n 3, 1) := by decide +kernel
theorem dX12_set_153 : decode cX12_set 153 = .ok (.iload 5, 2) := by decide +kernel
theorem dX12_set_155 : decode cX12_set 155 = .ok (.invokevirtual 307, 3) := by decide +kernel
theorem dX12_set_158 : decode cX12_set 158 = .ok (.invokevirtual 349, 3) := by decide +kernel
theorem dX12_set_161 : decode cX12_set 161 = .ok (.istore 10, 2) := by decide +kernel
theorem dX12_set_163 : decode cX12_set 163 = .ok (.aload_n 0, 1) := by decide +kernel
theorem dX12_set_164 : decode cX12_set 164 = .ok (.getfield 75, 3) := by decide +kernel
theorem dX12_set_167 : decode cX12_set 167 = .ok (.iload 9, 2) := by decide +kernel
theorem dX12_set_169 : decode cX12_set 169 = .ok (.iload 8, 2) := by decide +kernel
theorem dX12_set_171 : decode cX12_set 171 = .ok (.imul, 1) := by decide +kernel
theorem dX12_set_172 : decode cX12_set 172 = .ok (.iload 10, 2) := by decide +kernel
theorem dX12_set_174 : decode cX12_set 174 = .ok (.iadd, 1) := by decide +kernel
theorem dX12_set_175 : decode cX12_set 175 = .ok (.iaload, 1) := by decide +kernel
theorem dX12_set_176 : decode cX12_set 176 = .ok (.istore 11, 2) := by decide +kernel
theorem dX12_set_178 : decode cX12_set 178 = .ok (.iload 11, 2) := by decide +kernel
theorem dX12_set_180 : decode cX12_set 180 = .ok (.ldc_w 431, 3) := by decide +kernel
theorem dX12_set_183 : decode cX12_set 183 = .ok (.if_icmp .eq 8, 3) := by decide +kernel
theorem dX12_set_186 : decode cX12_set 186 = .ok (.iload 6, 2) := by decide +kernel
theorem dX12_set_188 : decode cX12_set 188 = .ok (.ifCond .ne 18, 3) := by decide +kernel
theorem dX12_set_191 : decode cX12_set 191 = .ok (.iload 11, 2) := by decide +kernel
theorem dX12_set_193 : decode cX12_set 193 = .ok (.ldc_w 431, 3) := by decide +kernel
theorem dX12_set_196 : decode cX12_set 196 = .ok (.if_icmp .ne 7, 3) := by decide +kernel
theorem dX12_set_199 : decode cX12_set 199 = .ok (.iconst (-1), 1) := by decide +kernel
theorem dX12_set_200 : decode cX12_set 200 = .ok (.goto 5, 3) := by decide +kernel
theorem dX12_set_203 : decode cX12_set 203 = .ok (.iload 11, 2) := by decide +kernel
theorem dX12_set_205 : decode cX12_set 205 = .ok (.ireturn, 1) := by decide +kernel
theorem dX12_set_206 : decode cX12_set 206 = .ok (.iload 11, 2) := by decide +kernel
theorem dX12_set_208 : decode cX12_set 208 = .ok (.istore 12, 2) := by decide +kernel
theorem dX12_set_210 : decode cX12_set 210 = .ok (.iconst 0, 1) := by decide +kernel
theorem dX12_set_211 : decode cX12_set 211 = .ok (.istore 13, 2) := by decide +kernel
theorem dX12_set_213 : decode cX12_set 213 = .ok (.iconst 0, 1) := by decide +kernel
theorem dX12_set_214 : decode cX12_set 214 = .ok (.istore 14, 2) := by decide +kernel
theorem dX12_set_216 : decode cX12_set 216 = .ok (.iload 14, 2) := by decide +kernel
theorem dX12_set_218 : decode cX12_set 218 = .ok (.iload 6, 2) := by decide +kernel
theorem dX12_set_220 : decode cX12_set 220 = .ok (.if_icmp .ge 93, 3) := by decide +kernel
theorem dX12_set_223 : decode cX12_set 223 = .ok (.iconst 0, 1) := by decide +kernel
theorem dX12_set_224 : decode cX12_set 224 = .ok (.istore 13, 2) := by decide +kernel
theorem dX12_set_226 : decode cX12_set 226 = .ok (.aload_n 0, 1) := by decide +kernel
theorem dX12_set_227 : decode cX12_set 227 = .ok (.getfield 75, 3) := by decide +kernel
theorem dX12_set_230 : decode cX12_set 230 = .ok (.ldc 78, 2) := by decide +kernel
theorem dX12_set_232 : decode cX12_set 232 = .ok (.iload 14, 2) := by decide +kernel
theorem dX12_set_234 : decode cX12_set 234 = .ok (.iconst 1, 1) := by decide +kernel
theorem dX12_set_235 : decode cX12_set 235 = .ok (.iadd, 1) := by decide +kernel
theorem dX12_set_236 : decode cX12_set 236 = .ok (.imul, 1) := by decide +kernel
theorem dX12_set_237 : decode cX12_set 237 = .ok (.iload 9, 2) := by decide +kernel
theorem dX12_set_239 : decode cX12_set 239 = .ok (.iload 8, 2) := by decide +kernel
theorem dX12_set_241 : decode cX12_set 241 = .ok (.imul, 1) := by decide +kernel
theorem dX12_set_242 : decode cX12_set 242 = .ok (.iadd, 1) := by decide +kernel
theorem dX12_set_243 : decode cX12_set 243 = .ok (.iload 10, 2) := by decide +kernel
theorem dX12_set_245 : decode cX12_set 245 = .ok (.iadd, 1) := by decide +kernel
theorem dX12_set_246 : decode cX12_set 246 = .ok (.iaload, 1) := by decide +kernel
theorem dX12_set_247 : decode cX12_set 247 = .ok (.iload 12, 2) := by decide +kernel
theorem dX12_set_249 : decode cX12_set 249 = .ok (.if_icmp .eq 58, 3) := by decide +kernel
theorem dX12_set_252 : decode cX12_set 252 = .ok (.iload 9, 2) := by decide +kernel
theorem dX12_set_254 : decode cX12_set 254 = .ok (.aload_n 0, 1) := by decide +kernel
theorem dX12_set_255 : decode cX12_set 255 = .ok (.getfield 13, 3) := by decide +kernel
theorem dX12_set_258 : decode cX12_set 258 = .ok (.bipush 124, 2) := by decide +kernel
theorem dX12_set_260 : decode cX12_set 260 = .ok (.bipush 6, 2) := by decide +kernel
theorem dX12_set_262 : decode cX12_set 262 = .ok (.iload 14, 2) := by decide +kernel
theorem dX12_set_264 : decode cX12_set 264 = .ok (.imul, 1) := by decide +kernel
theorem dX12_set_265 : decode cX12_set 265 = .ok (.iadd, 1) := by decide +kernel
theorem dX12_set_266 : decode cX12_set 266 = .ok (.iload_n 1, 1) := by decide +kernel
theorem dX12_set_267 : decode cX12_set 267 = .ok (.iadd, 1) := by decide +kernel
theorem dX12_set_268 : decode cX12_set 268 = .ok (.iaload, 1) := by decide +kernel
theorem dX12_set_269 : decode cX12_set 269 = .ok (.iadd, 1) := by decide +kernel
theorem dX12_set_270 : decode cX12_set 270 = .ok (.iload 7, 2) := by decide +kernel
theorem dX12_set_272 : decode cX12_set 272 = .ok (.irem, 1) := by decide +kernel
theorem dX12_set_273 : decode cX12_set 273 = .ok (.istore 9, 2) := by decide +kernel
theorem dX12_set_275 : decode cX12_set 275 = .ok (.iload 10, 2) := by decide +kernel
theorem dX12_set_277 : decode cX12_set 277 = .ok (.aload_n 0, 1) := by decide +kernel
theorem dX12_set_278 : decode cX12_set 278 = .ok (.getfield 13, 3) := by decide +kernel
theorem dX12_set_281 : decode cX12_set 281 = .ok (.bipush 124, 2) := by decide +kernel
theorem dX12_set_283 : decode cX12_set 283 = .ok (.bipush 6, 2) := by decide +kernel
theorem dX12_set_285 : decode cX12_set 285 = .ok (.iload 14, 2) := by decide +kernel
theorem dX12_set_287 : decode cX12_set 287 = .ok (.imul, 1) := by decide +kernel
theorem dX12_set_288 : decode cX12_set 288 = .ok (.iadd, 1) := by decide +kernel
theorem dX12_set_289 : decode cX12_set 289 = .ok (.iload_n 3, 1) := by decide +kernel
theorem dX12_set_290 : decode cX12_set 290 = .ok (.iadd, 1) := by decide +kernel
theorem dX12_set_291 : decode cX12_set 291 = .ok (.iaload, 1) := by decide +kernel
theorem dX12_set_292 : decode cX12_set 292 = .ok (.iadd, 1) := by decide +kernel
theorem dX12_set_293 : decode cX12_set 293 = .ok (.iload 8, 2) := by decide +kernel
theorem dX12_set_295 : decode cX12_set 295 = .ok (.irem, 1) := by decide +kernel
theorem dX12_set_296 : decode cX12_set 296 = .ok (.istore 10, 2) := by decide +kernel
theorem dX12_set_298 : decode cX12_set 298 = .ok (.iinc 12 (-1), 3) := by decide +kernel
theorem dX12_set_301 : decode cX12_set 301 = .ok (.iinc 13 1, 3) := by decide +kernel
theorem dX12_set_304 : decode cX12_set 304 = .ok (.goto (-78), 3) := by decide +kernel
theorem dX12_set_307 : decode cX12_set 307 = .ok (.iinc 14 1, 3) := by decide +kernel
theorem dX12_set_310 : decode cX12_set 310 = .ok (.goto (-94), 3) := by decide +kernel
theorem dX12_set_313 : decode cX12_set 313 = .ok (.iload 13, 2) := by decide +kernel
theorem dX12_set_315 : decode cX12_set 315 = .ok (.ireturn, 1) := by decide +kernel
theorem dX12_wornOf_0 : decode cX12_wornOf 0 = .ok (.ldc2_w 295, 3) := by decide +kernel
theorem dX12_wornOf_3 : decode cX12_wornOf 3 = .ok (.lstore_n 2, 1) := by decide +kernel
theorem dX12_wornOf_4 : decode cX12_wornOf 4 = .ok (.aload_n 0, 1) := by decide +kernel
theorem dX12_wornOf_5 : decode cX12_wornOf 5 = .ok (.iload_n 1, 1) := by decide +kernel
theorem dX12_wornOf_6 : decode cX12_wornOf 6 = .ok (.iconst 3, 1) := by decide +kernel
theorem dX12_wornOf_7 : decode cX12_wornOf 7 = .ok (.invokevirtual 115, 3) := by decide +kernel
theorem dX12_wornOf_10 : decode cX12_wornOf 10 = .ok (.istore 4, 2) := by decide +kernel
theorem dX12_wornOf_12 : decode cX12_wornOf 12 = .ok (.iconst 0, 1) := by decide +kernel
theorem dX12_wornOf_13 : decode cX12_wornOf 13 = .ok (.istore 5, 2) := by decide +kernel
theorem dX12_wornOf_15 : decode cX12_wornOf 15 = .ok (.iload 5, 2) := by decide +kernel
theorem dX12_wornOf_17 : decode cX12_wornOf 17 = .ok (.iload 4, 2) := by decide +kernel
theorem dX12_wornOf_19 : decode cX12_wornOf 19 = .ok (.if_icmp .gt 63, 3) := by decide +kernel
theorem dX12_wornOf_22 : decode cX12_wornOf 22 = .ok (.iload 4, 2) := by decide +kernel
theorem dX12_wornOf_24 : decode cX12_wornOf 24 = .ok (.ifCond .le 58, 3) := by decide +kernel
theorem dX12_wornOf_27 : decode cX12_wornOf 27 = .ok (.aload_n 0, 1) := by decide +kernel
theorem dX12_wornOf_28 : decode cX12_wornOf 28 = .ok (.iload_n 1, 1) := by decide +kernel
theorem dX12_wornOf_29 : decode cX12_wornOf 29 = .ok (.iload 5, 2) := by decide +kernel
theorem dX12_wornOf_31 : decode cX12_wornOf 31 = .ok (.invokevirtual 328, 3) := by decide +kernel
theorem dX12_wornOf_34 : decode cX12_wornOf 34 = .ok (.lstore 6, 2) := by decide +kernel
theorem dX12_wornOf_36 : decode cX12_wornOf 36 = .ok (.aload_n 0, 1) := by decide +kernel
theorem dX12_wornOf_37 : decode cX12_wornOf 37 = .ok (.getfield 13, 3) := by decide +kernel
theorem dX12_wornOf_40 : decode cX12_wornOf 40 = .ok (.bipush 6, 2) := by decide +kernel
theorem dX12_wornOf_42 : decode cX12_wornOf 42 = .ok (.iaload, 1) := by decide +kernel
theorem dX12_wornOf_43 : decode cX12_wornOf 43 = .ok (.i2l, 1) := by decide +kernel
theorem dX12_wornOf_44 : decode cX12_wornOf 44 = .ok (.aload_n 0, 1) := by decide +kernel
theorem dX12_wornOf_45 : decode cX12_wornOf 45 = .ok (.iload_n 1, 1) := by decide +kernel
theorem dX12_wornOf_46 : decode cX12_wornOf 46 = .ok (.iload 5, 2) := by decide +kernel
theorem dX12_wornOf_48 : decode cX12_wornOf 48 = .ok (.invokevirtual 331, 3) := by decide +kernel
theorem dX12_wornOf_51 : decode cX12_wornOf 51 = .ok (.lmul, 1) := by decide +kernel
theorem dX12_wornOf_52 : decode cX12_wornOf 52 = .ok (.lload 6, 2) := by decide +kernel
theorem dX12_wornOf_54 : decode cX12_wornOf 54 = .ok (.ladd, 1) := by decide +kernel
theorem dX12_wornOf_55 : decode cX12_wornOf 55 = .ok (.lconst 1, 1) := by decide +kernel
theorem dX12_wornOf_56 : decode cX12_wornOf 56 = .ok (.lsub, 1) := by decide +kernel
theorem dX12_wornOf_57 : decode cX12_wornOf 57 = .ok (.lload 6, 2) := by decide +kernel
theorem dX12_wornOf_59 : decode cX12_wornOf 59 = .ok (.ldiv, 1) := by decide +kernel
theorem dX12_wornOf_60 : decode cX12_wornOf 60 = .ok (.lstore 8, 2) := by decide +kernel
theorem dX12_wornOf_62 : decode cX12_wornOf 62 = .ok (.lload 8, 2) := by decide +kernel
theorem dX12_wornOf_64 : decode cX12_wornOf 64 = .ok (.lload_n 2, 1) := by decide +kernel
theorem dX12_wornOf_65 : decode cX12_wornOf 65 = .ok (.lcmp, 1) := by decide +kernel
theorem dX12_wornOf_66 : decode cX12_wornOf 66 = .ok (.ifCond .ge 8, 3) := by decide +kernel
theorem dX12_wornOf_69 : decode cX12_wornOf 69 = .ok (.lload 8, 2) := by decide +kernel
theorem dX12_wornOf_71 : decode cX12_wornOf 71 = .ok (.goto 4, 3) := by decide +kernel
theorem dX12_wornOf_74 : decode cX12_wornOf 74 = .ok (.lload_n 2, 1) := by decide +kernel
theorem dX12_wornOf_75 : decode cX12_wornOf 75 = .ok (.lstore_n 2, 1) := by decide +kernel
theorem dX12_wornOf_76 : decode cX12_wornOf 76 = .ok (.iinc 5 1, 3) := by decide +kernel
theorem dX12_wornOf_79 : decode cX12_wornOf 79 = .ok (.goto (-64), 3) := by decide +kernel
theorem dX12_wornOf_82 : decode cX12_wornOf 82 = .ok (.lload_n 2, 1) := by decide +kernel
theorem dX12_wornOf_83 : decode cX12_wornOf 83 = .ok (.ldc2_w 105, 3) := by decide +kernel
theorem dX12_wornOf_86 : decode cX12_wornOf 86 = .ok (.lcmp, 1) := by decide +kernel
theorem dX12_wornOf_87 : decode cX12_wornOf 87 = .ok (.ifCond .le 7, 3) := by decide +kernel
theorem dX12_wornOf_90 : decode cX12_wornOf 90 = .ok (.iconst (-1), 1) := by decide +kernel
theorem dX12_wornOf_91 : decode cX12_wornOf 91 = .ok (.goto 5, 3) := by decide +kernel
theorem dX12_wornOf_94 : decode cX12_wornOf 94 = .ok (.lload_n 2, 1) := by decide +kernel
theorem dX12_wornOf_95 : decode cX12_wornOf 95 = .ok (.l2i, 1) := by decide +kernel
theorem dX12_wornOf_96 : decode cX12_wornOf 96 = .ok (.ireturn, 1) := by decide +kernel
theorem dX12_worn_0 : decode cX12_worn 0 = .ok (.aload_n 0, 1) := by decide +kernel
theorem dX12_worn_1 : decode cX12_worn 1 = .ok (.iconst 0, 1) := by decide +kernel
theorem dX12_worn_2 : decode cX12_worn 2 = .ok (.putfield 88, 3) := by decide +kernel
theorem dX12_worn_5 : decode cX12_worn 5 = .ok (.iload_n 1, 1) := by decide +kernel
theorem dX12_worn_6 : decode cX12_worn 6 = .ok (.iconst (-1), 1) := by decide +kernel
theorem dX12_worn_7 : decode cX12_worn 7 = .ok (.if_icmp .eq 13, 3) := by decide +kernel
theorem dX12_worn_10 : decode cX12_worn 10 = .ok (.aload_n 0, 1) := by decide +kernel
theorem dX12_worn_11 : decode cX12_worn 11 = .ok (.iload_n 1, 1) := by decide +kernel
theorem dX12_worn_12 : decode cX12_worn 12 = .ok (.invokevirtual 111, 3) := by decide +kernel
theorem dX12_worn_15 : decode cX12_worn 15 = .ok (.ifCond .ne 5, 3) := by decide +kernel
theorem dX12_worn_18 : decode cX12_worn 18 = .ok (.iconst (-1), 1) := by decide +kernel
theorem dX12_worn_19 : decode cX12_worn 19 = .ok (.ireturn, 1) := by decide +kernel
theorem dX12_worn_20 : decode cX12_worn 20 = .ok (.iconst (-1), 1) := by decide +kernel
theorem dX12_worn_21 : decode cX12_worn 21 = .ok (.istore_n 2, 1) := by decide +kernel
theorem dX12_worn_22 : decode cX12_worn 22 = .ok (.iconst 0, 1) := by decide +kernel
theorem dX12_worn_23 : decode cX12_worn 23 = .ok (.istore_n 3, 1) := by decide +kernel
theorem dX12_worn_24 : decode cX12_worn 24 = .ok (.iload_n 3, 1) := by decide +kernel
theorem dX12_worn_25 : decode cX12_worn 25 = .ok (.aload_n 0, 1) := by decide +kernel
theorem dX12_worn_26 : decode cX12_worn 26 = .ok (.getfield 13, 3) := by decide +kernel
theorem dX12_worn_29 : decode cX12_worn 29 = .ok (.iconst 0, 1) := by decide +kernel
theorem dX12_worn_30 : decode cX12_worn 30 = .ok (.iaload, 1) := by decide +kernel
theorem dX12_worn_31 : decode cX12_worn 31 = .ok (.if_icmp .ge 54, 3) := by decide +kernel
theorem dX12_worn_34 : decode cX12_worn 34 = .ok (.iload_n 1, 1) := by decide +kernel
theorem dX12_worn_35 : decode cX12_worn 35 = .ok (.iconst (-1), 1) := by decide +kernel
theorem dX12_worn_36 : decode cX12_worn 36 = .ok (.if_icmp .eq 8, 3) := by decide +kernel
theorem dX12_worn_39 : decode cX12_worn 39 = .ok (.iload_n 1, 1) := by decide +kernel
theorem dX12_worn_40 : decode cX12_worn 40 = .ok (.iload_n 3, 1) := by decide +kernel
theorem dX12_worn_41 : decode cX12_worn 41 = .ok (.if_icmp .ne 11, 3) := by decide +kernel
theorem dX12_worn_44 : decode cX12_worn 44 = .ok (.aload_n 0, 1) := by decide +kernel
theorem dX12_worn_45 : decode cX12_worn 45 = .ok (.iload_n 3, 1) := by decide +kernel
theorem dX12_worn_46 : decode cX12_worn 46 = .ok (.invokevirtual 436, 3) := by decide +kernel
theorem dX12_worn_49 : decode cX12_worn 49 = .ok (.goto 4, 3) := by decide +kernel
theorem dX12_worn_52 : decode cX12_worn 52 = .ok (.iconst (-1), 1) := by decide +kernel
theorem dX12_worn_53 : decode cX12_worn 53 = .ok (.istore 4, 2) := by decide +kernel
theorem dX12_worn_55 : decode cX12_worn 55 = .ok (.iload 4, 2) := by decide +kernel
theorem dX12_worn_57 : decode cX12_worn 57 = .ok (.iconst (-1), 1) := by decide +kernel
theorem dX12_worn_58 : decode cX12_worn 58 = .ok (.if_icmp .eq 19, 3) := by decide +kernel
theorem dX12_worn_61 : decode cX12_worn 61 = .ok (.iload_n 2, 1) := by decide +kernel
theorem dX12_worn_62 : decode cX12_worn 62 = .ok (.iconst (-1), 1) := by decide +kernel
theorem dX12_worn_63 : decode cX12_worn 63 = .ok (.if_icmp .eq 9, 3) := by decide +kernel
theorem dX12_worn_66 : decode cX12_worn 66 = .ok (.iload 4, 2) := by decide +kernel
theorem dX12_worn_68 : decode cX12_worn 68 = .ok (.iload_n 2, 1) := by decide +kernel
theorem dX12_worn_69 : decode cX12_worn 69 = .ok (.if_icmp .ge 8, 3) := by decide +kernel
theorem dX12_worn_72 : decode cX12_worn 72 = .ok (.iload 4, 2) := by decide +kernel
theorem dX12_worn_74 : decode cX12_worn 74 = .ok (.goto 4, 3) := by decide +kernel
theorem dX12_worn_77 : decode cX12_worn 77 = .ok (.iload_n 2, 1) := by decide +kernel
theorem dX12_worn_78 : decode cX12_worn 78 = .ok (.istore_n 2, 1) := by decide +kernel
theorem dX12_worn_79 : decode cX12_worn 79 = .ok (.iinc 3 1, 3) := by decide +kernel
theorem dX12_worn_82 : decode cX12_worn 82 = .ok (.goto (-58), 3) := by decide +kernel
theorem dX12_worn_85 : decode cX12_worn 85 = .ok (.iload_n 2, 1) := by decide +kernel
theorem dX12_worn_86 : decode cX12_worn 86 = .ok (.ireturn, 1) := by decide +kernel
theorem dX12_isAlike_0 : decode cX12_isAlike 0 = .ok (.aload_n 0, 1) := by decide +kernel
theorem dX12_isAlike_1 : decode cX12_isAlike 1 = .ok (.iload_n 2, 1) := by decide +kernel
theorem dX12_isAlike_2 : decode cX12_isAlike 2 = .ok (.iconst 3, 1) := by decide +kernel
theorem dX12_isAlike_3 : decode cX12_isAlike 3 = .ok (.invokevirtual 115, 3) := by decide +kernel
theorem dX12_isAlike_6 : decode cX12_isAlike 6 = .ok (.iload_n 3, 1) := by decide +kernel
theorem dX12_isAlike_7 : decode cX12_isAlike 7 = .ok (.if_icmp .le 7, 3) := by decide +kernel
theorem dX12_isAlike_10 : decode cX12_isAlike 10 = .ok (.iconst 1, 1) := by decide +kernel
theorem dX12_isAlike_11 : decode cX12_isAlike 11 = .ok (.goto 4, 3) := by decide +kernel
theorem dX12_isAlike_14 : decode cX12_isAlike 14 = .ok (.iconst 0, 1) := by decide +kernel
theorem dX12_isAlike_15 : decode cX12_isAlike 15 = .ok (.istore 4, 2) := by decide +kernel
theorem dX12_isAlike_17 : decode cX12_isAlike 17 = .ok (.iconst 0, 1) := by decide +kernel
theorem dX12_isAlike_18 : decode cX12_isAlike 18 = .ok (.istore 5, 2) := by decide +kernel
theorem dX12_isAlike_20 : decode cX12_isAlike 20 = .ok (.iload 5, 2) := by decide +kernel
theorem dX12_isAlike_22 : decode cX12_isAlike 22 = .ok (.iconst 2, 1) := by decide +kernel
theorem dX12_isAlike_23 : decode cX12_isAlike 23 = .ok (.iload_n 3, 1) := by decide +kernel
theorem dX12_isAlike_24 : decode cX12_isAlike 24 = .ok (.imul, 1) := by decide +kernel
theorem dX12_isAlike_25 : decode cX12_isAlike 25 = .ok (.iconst 2, 1) := by decide +kernel
theorem dX12_isAlike_26 : decode cX12_isAlike 26 = .ok (.iadd, 1) := by decide +kernel
theorem dX12_isAlike_27 : decode cX12_isAlike 27 = .ok (.if_icmp .ge 42, 3) := by decide +kernel
theorem dX12_isAlike_30 : decode cX12_isAlike 30 = .ok (.iload 4, 2) := by decide +kernel
theorem dX12_isAlike_32 : decode cX12_isAlike 32 = .ok (.ifCond .eq 28, 3) := by decide +kernel
theorem dX12_isAlike_35 : decode cX12_isAlike 35 = .ok (.aload_n 0, 1) := by decide +kernel
theorem dX12_isAlike_36 : decode cX12_isAlike 36 = .ok (.iload_n 1, 1) := by decide +kernel
theorem dX12_isAlike_37 : decode cX12_isAlike 37 = .ok (.iconst 4, 1) := by decide +kernel
theorem dX12_isAlike_38 : decode cX12_isAlike 38 = .ok (.iload 5, 2) := by decide +kernel
theorem dX12_isAlike_40 : decode cX12_isAlike 40 = .ok (.iadd, 1) := by decide +kernel
theorem dX12_isAlike_41 : decode cX12_isAlike 41 = .ok (.invokevirtual 115, 3) := by decide +kernel
theorem dX12_isAlike_44 : decode cX12_isAlike 44 = .ok (.aload_n 0, 1) := by decide +kernel
theorem dX12_isAlike_45 : decode cX12_isAlike 45 = .ok (.iload_n 2, 1) := by decide +kernel
theorem dX12_isAlike_46 : decode cX12_isAlike 46 = .ok (.iconst 4, 1) := by decide +kernel
theorem dX12_isAlike_47 : decode cX12_isAlike 47 = .ok (.iload 5, 2) := by decide +kernel
theorem dX12_isAlike_49 : decode cX12_isAlike 49 = .ok (.iadd, 1) := by decide +kernel
theorem dX12_isAlike_50 : decode cX12_isAlike 50 = .ok (.invokevirtual 115, 3) := by decide +kernel
theorem dX12_isAlike_53 : decode cX12_isAlike 53 = .ok (.if_icmp .ne 7, 3) := by decide +kernel
theorem dX12_isAlike_56 : decode cX12_isAlike 56 = .ok (.iconst 1, 1) := by decide +kernel
theorem dX12_isAlike_57 : decode cX12_isAlike 57 = .ok (.goto 4, 3) := by decide +kernel
theorem dX12_isAlike_60 : decode cX12_isAlike 60 = .ok (.iconst 0, 1) := by decide +kernel
theorem dX12_isAlike_61 : decode cX12_isAlike 61 = .ok (.istore 4, 2) := by decide +kernel
theorem dX12_isAlike_63 : decode cX12_isAlike 63 = .ok (.iinc 5 1, 3) := by decide +kernel
theorem dX12_isAlike_66 : decode cX12_isAlike 66 = .ok (.goto (-46), 3) := by decide +kernel
theorem dX12_isAlike_69 : decode cX12_isAlike 69 = .ok (.iload 4, 2) := by decide +kernel
theorem dX12_isAlike_71 : decode cX12_isAlike 71 = .ok (.ireturn, 1) := by decide +kernel
theorem dX12_shared_0 : decode cX12_shared 0 = .ok (.aload_n 0, 1) := by decide +kernel
theorem dX12_shared_1 : decode cX12_shared 1 = .ok (.iconst 0, 1) := by decide +kernel
theorem dX12_shared_2 : decode cX12_shared 2 = .ok (.putfield 88, 3) := by decide +kernel
theorem dX12_shared_5 : decode cX12_shared 5 = .ok (.iconst 0, 1) := by decide +kernel
theorem dX12_shared_6 : decode cX12_shared 6 = .ok (.istore_n 1, 1) := by decide +kernel
theorem dX12_shared_7 : decode cX12_shared 7 = .ok (.iconst 0, 1) := by decide +kernel
theorem dX12_shared_8 : decode cX12_shared 8 = .ok (.istore_n 2, 1) := by decide +kernel
theorem dX12_shared_9 : decode cX12_shared 9 = .ok (.iload_n 2, 1) := by decide +kernel
theorem dX12_shared_10 : decode cX12_shared 10 = .ok (.aload_n 0, 1) := by decide +kernel
theorem dX12_shared_11 : decode cX12_shared 11 = .ok (.getfield 13, 3) := by decide +kernel
theorem dX12_shared_14 : decode cX12_shared 14 = .ok (.iconst 0, 1) := by decide +kernel
theorem dX12_shared_15 : decode cX12_shared 15 = .ok (.iaload, 1) := by decide +kernel
theorem dX12_shared_16 : decode cX12_shared 16 = .ok (.if_icmp .ge 81, 3) := by decide +kernel
theorem dX12_shared_19 : decode cX12_shared 19 = .ok (.iconst 0, 1) := by decide +kernel
theorem dX12_shared_20 : decode cX12_shared 20 = .ok (.istore_n 3, 1) := by decide +kernel
theorem dX12_shared_21 : decode cX12_shared 21 = .ok (.iload_n 3, 1) := by decide +kernel
theorem dX12_shared_22 : decode cX12_shared 22 = .ok (.aload_n 0, 1) := by decide +kernel
theorem dX12_shared_23 : decode cX12_shared 23 = .ok (.iload_n 2, 1) := by decide +kernel
theorem dX12_shared_24 : decode cX12_shared 24 = .ok (.iconst 3, 1) := by decide +kernel
theorem dX12_shared_25 : decode cX12_shared 25 = .ok (.invokevirtual 115, 3) := by decide +kernel
theorem dX12_shared_28 : decode cX12_shared 28 = .ok (.if_icmp .ge 63, 3) := by decide +kernel
theorem dX12_shared_31 : decode cX12_shared 31 = .ok (.iconst 1, 1) := by decide +kernel
theorem dX12_shared_32 : decode cX12_shared 32 = .ok (.istore 4, 2) := by decide +kernel
theorem dX12_shared_34 : decode cX12_shared 34 = .ok (.iconst 0, 1) := by decide +kernel
theorem dX12_shared_35 : decode cX12_shared 35 = .ok (.istore 5, 2) := by decide +kernel
theorem dX12_shared_37 : decode cX12_shared 37 = .ok (.iload 5, 2) := by decide +kernel
theorem dX12_shared_39 : decode cX12_shared 39 = .ok (.iload_n 2, 1) := by decide +kernel
theorem dX12_shared_40 : decode cX12_shared 40 = .ok (.if_icmp .ge 32, 3) := by decide +kernel
theorem dX12_shared_43 : decode cX12_shared 43 = .ok (.iload 4, 2) := by decide +kernel
theorem dX12_shared_45 : decode cX12_shared 45 = .ok (.ifCond .eq 18, 3) := by decide +kernel
theorem dX12_shared_48 : decode cX12_shared 48 = .ok (.aload_n 0, 1) := by decide +kernel
theorem dX12_shared_49 : decode cX12_shared 49 = .ok (.iload_n 2, 1) := by decide +kernel
theorem dX12_shared_50 : decode cX12_shared 50 = .ok (.iload 5, 2) := by decide +kernel
theorem dX12_shared_52 : decode cX12_shared 52 = .ok (.iload_n 3, 1) := by decide +kernel
theorem dX12_shared_53 : decode cX12_shared 53 = .ok (.invokevirtual 439, 3) := by decide +kernel
theorem dX12_shared_56 : decode cX12_shared 56 = .ok (.ifCond .ne 7, 3) := by decide +kernel
theorem dX12_shared_59 : decode cX12_shared 59 = .ok (.iconst 1, 1) := by decide +kernel
theorem dX12_shared_60 : decode cX12_shared 60 = .ok (.goto 4, 3) := by decide +kernel
theorem dX12_shared_63 : decode cX12_shared 63 = .ok (.iconst 0, 1) := by decide +kernel
theorem dX12_shared_64 : decode cX12_shared 64 = .ok (.istore 4, 2) := by decide +kernel
theorem dX12_shared_66 : decode cX12_shared 66 = .ok (.iinc 5 1, 3) := by decide +kernel
theorem dX12_shared_69 : decode cX12_shared 69 = .ok (.goto (-32), 3) := by decide +kernel
theorem dX12_shared_72 : decode cX12_shared 72 = .ok (.iload_n 1, 1) := by decide +kernel
theorem dX12_shared_73 : decode cX12_shared 73 = .ok (.iload 4, 2) := by decide +kernel
theorem dX12_shared_75 : decode cX12_shared 75 = .ok (.ifCond .eq 7, 3) := by decide +kernel
theorem dX12_shared_78 : decode cX12_shared 78 = .ok (.iconst 2, 1) := by decide +kernel
theorem dX12_shared_79 : decode cX12_shared 79 = .ok (.goto 4, 3) := by decide +kernel
theorem dX12_shared_82 : decode cX12_shared 82 = .ok (.iconst 0, 1) := by decide +kernel
theorem dX12_shared_83 : decode cX12_shared 83 = .ok (.iadd, 1) := by decide +kernel
theorem dX12_shared_84 : decode cX12_shared 84 = .ok (.istore_n 1, 1) := by decide +kernel
theorem dX12_shared_85 : decode cX12_shared 85 = .ok (.iinc 3 1, 3) := by decide +kernel
theorem dX12_shared_88 : decode cX12_shared 88 = .ok (.goto (-67), 3) := by decide +kernel
theorem dX12_shared_91 : decode cX12_shared 91 = .ok (.iinc 2 1, 3) := by decide +kernel
theorem dX12_shared_94 : decode cX12_shared 94 = .ok (.goto (-85), 3) := by decide +kernel
theorem dX12_shared_97 : decode cX12_shared 97 = .ok (.iload_n 1, 1) := by decide +kernel
theorem dX12_shared_98 : decode cX12_shared 98 = .ok (.ireturn, 1) := by decide +kernel
theorem dX12_storm_0 : decode cX12_storm 0 = .ok (.aload_n 0, 1) := by decide +kernel
theorem dX12_storm_1 : decode cX12_storm 1 = .ok (.iconst 0, 1) := by decide +kernel
theorem dX12_storm_2 : decode cX12_storm 2 = .ok (.putfield 88, 3) := by decide +kernel
theorem dX12_storm_5 : decode cX12_storm 5 = .ok (.iload_n 1, 1) := by decide +kernel
theorem dX12_storm_6 : decode cX12_storm 6 = .ok (.i2l, 1) := by decide +kernel
theorem dX12_storm_7 : decode cX12_storm 7 = .ok (.lconst 0, 1) := by decide +kernel
theorem dX12_storm_8 : decode cX12_storm 8 = .ok (.ldc2_w 105, 3) := by decide +kernel
theorem dX12_storm_11 : decode cX12_storm 11 = .ok (.invokestatic 98, 3) := by decide +kernel
theorem dX12_storm_14 : decode cX12_storm 14 = .ok (.ifCond .eq 31, 3) := by decide +kernel
theorem dX12_storm_17 : decode cX12_storm 17 = .ok (.iload_n 2, 1) := by decide +kernel
theorem dX12_storm_18 : decode cX12_storm 18 = .ok (.invokestatic 318, 3) := by decide +kernel
theorem dX12_storm_21 : decode cX12_storm 21 = .ok (.ifCond .eq 24, 3) := by decide +kernel
theorem dX12_storm_24 : decode cX12_storm 24 = .ok (.iload_n 3, 1) := by decide +kernel
theorem dX12_storm_25 : decode cX12_storm 25 = .ok (.i2l, 1) := by decide +kernel
theorem dX12_storm_26 : decode cX12_storm 26 = .ok (.lconst 1, 1) := by decide +kernel
theorem dX12_storm_27 : decode cX12_storm 27 = .ok (.ldc2_w 443, 3) := by decide +kernel
theorem dX12_storm_30 : decode cX12_storm 30 = .ok (.invokestatic 98, 3) := by decide +kernel
theorem dX12_storm_33 : decode cX12_storm 33 = .ok (.ifCond .eq 12, 3) := by decide +kernel
theorem dX12_storm_36 : decode cX12_storm 36 = .ok (.iload_n 2, 1) := by decide +kernel
theorem dX12_storm_37 : decode cX12_storm 37 = .ok (.iload_n 3, 1) := by decide +kernel
theorem dX12_storm_38 : decode cX12_storm 38 = .ok (.iadd, 1) := by decide +kernel
theorem dX12_storm_39 : decode cX12_storm 39 = .ok (.invokestatic 318, 3) := by decide +kernel
theorem dX12_storm_42 : decode cX12_storm 42 = .ok (.ifCond .ne 9, 3) := by decide +kernel
theorem dX12_storm_45 : decode cX12_storm 45 = .ok (.aload_n 0, 1) := by decide +kernel
theorem dX12_storm_46 : decode cX12_storm 46 = .ok (.iconst (-1), 1) := by decide +kernel
theorem dX12_storm_47 : decode cX12_storm 47 = .ok (.invokevirtual 102, 3) := by decide +kernel
theorem dX12_storm_50 : decode cX12_storm 50 = .ok (.ireturn, 1) := by decide +kernel
theorem dX12_storm_51 : decode cX12_storm 51 = .ok (.aload_n 0, 1) := by decide +kernel
theorem dX12_storm_52 : decode cX12_storm 52 = .ok (.iload_n 1, 1) := by decide +kernel
theorem dX12_storm_53 : decode cX12_storm 53 = .ok (.i2l, 1) := by decide +kernel
theorem dX12_storm_54 : decode cX12_storm 54 = .ok (.putfield 445, 3) := by decide +kernel
theorem dX12_storm_57 : decode cX12_storm 57 = .ok (.aload_n 0, 1) := by decide +kernel
theorem dX12_storm_58 : decode cX12_storm 58 = .ok (.aload_n 0, 1) := by decide +kernel
theorem dX12_storm_59 : decode cX12_storm 59 = .ok (.getfield 13, 3) := by decide +kernel
theorem dX12_storm_62 : decode cX12_storm 62 = .ok (.iconst 0, 1) := by decide +kernel
theorem dX12_storm_63 : decode cX12_storm 63 = .ok (.iaload, 1) := by decide +kernel
theorem dX12_storm_64 : decode cX12_storm 64 = .ok (.putfield 448, 3) := by decide +kernel
theorem dX12_storm_67 : decode cX12_storm 67 = .ok (.iconst 0, 1) := by decide +kernel
theorem dX12_storm_68 : decode cX12_storm 68 = .ok (.istore 4, 2) := by decide +kernel
theorem dX12_storm_70 : decode cX12_storm 70 = .ok (.iload 4, 2) := by decide +kernel
theorem dX12_storm_72 : decode cX12_storm 72 = .ok (.bipush 6, 2) := by decide +kernel
theorem dX12_storm_74 : decode cX12_storm 74 = .ok (.if_icmp .ge 17, 3) := by decide +kernel
theorem dX12_storm_77 : decode cX12_storm 77 = .ok (.aload_n 0, 1) := by decide +kernel
theorem dX12_storm_78 : decode cX12_storm 78 = .ok (.getfield 82, 3) := by decide +kernel
theorem dX12_storm_81 : decode cX12_storm 81 = .ok (.iload 4, 2) := by decide +kernel
theorem dX12_storm_83 : decode cX12_storm 83 = .ok (.iconst 0, 1) := by decide +kernel
theorem dX12_storm_84 : decode cX12_storm 84 = .ok (.iastore, 1) := by decide +kernel
theorem dX12_storm_85 : decode cX12_storm 85 = .ok (.iinc 4 1, 3) := by decide +kernel
theorem dX12_storm_88 : decode cX12_storm 88 = .ok (.goto (-18), 3) := by decide +kernel
theorem dX12_storm_91 : decode cX12_storm 91 = .ok (.iconst 0, 1) := by decide +kernel
theorem dX12_storm_92 : decode cX12_storm 92 = .ok (.istore 4, 2) := by decide +kernel
theorem dX12_storm_94 : decode cX12_storm 94 = .ok (.iconst 0, 1) := by decide +kernel
theorem dX12_storm_95 : decode cX12_storm 95 = .ok (.istore 5, 2) := by decide +kernel
theorem dX12_storm_97 : decode cX12_storm 97 = .ok (.iload 5, 2) := by decide +kernel
theorem dX12_storm_99 : decode cX12_storm 99 = .ok (.iload_n 3, 1) := by decide +kernel
theorem dX12_storm_100 : decode cX12_storm 100 = .ok (.if_icmp .ge 86, 3) := by decide +kernel
theorem dX12_storm_103 : decode cX12_storm 103 = .ok (.iconst 0, 1) := by decide +kernel
theorem dX12_storm_104 : decode cX12_storm 104 = .ok (.istore 6, 2) := by decide +kernel
theorem dX12_storm_106 : decode cX12_storm 106 = .ok (.iload 6, 2) := by decide +kernel
theorem dX12_storm_108 : decode cX12_storm 108 = .ok (.aload_n 0, 1) := by decide +kernel
theorem dX12_storm_109 : decode cX12_storm 109 = .ok (.getfield 448, 3) := by decide +kernel
theorem dX12_storm_112 : decode cX12_storm 112 = .ok (.if_icmp .ge 68, 3) := by decide +kernel
theorem dX12_storm_115 : decode cX12_storm 115 = .ok (.aload_n 0, 1) := by decide +kernel
theorem dX12_storm_116 : decode cX12_storm 116 = .ok (.aload_n 0, 1) := by decide +kernel
theorem dX12_storm_117 : decode cX12_storm 117 = .ok (.getfield 445, 3) := by decide +kernel
theorem dX12_storm_120 : decode cX12_storm 120 = .ok (.ldc2_w 451, 3) := by decide +kernel
theorem dX12_storm_123 : decode cX12_storm 123 = .ok (.lmul, 1) := by decide +kernel
theorem dX12_storm_124 : decode cX12_storm 124 = .ok (.ldc2_w 453, 3) := by decide +kernel
theorem dX12_storm_127 : decode cX12_storm 127 = .ok (.ladd, 1) := by decide +kernel
theorem dX12_storm_128 : decode cX12_storm 128 = .ok (.ldc2_w 455, 3) := by decide +kernel
theorem dX12_storm_131 : decode cX12_storm 131 = .ok (.lrem, 1) := by decide +kernel
theorem dX12_storm_132 : decode cX12_storm 132 = .ok (.putfield 445, 3) := by decide +kernel
theorem dX12_storm_135 : decode cX12_storm 135 = .ok (.aload_n 0, 1) := by decide +kernel
theorem dX12_storm_136 : decode cX12_storm 136 = .ok (.getfield 445, 3) := by decide +kernel
theorem dX12_storm_139 : decode cX12_storm 139 = .ok (.ldc2_w 180, 3) := by decide +kernel
theorem dX12_storm_142 : decode cX12_storm 142 = .ok (.lrem, 1) := by decide +kernel
theorem dX12_storm_143 : decode cX12_storm 143 = .ok (.lconst 0, 1) := by decide +kernel
theorem dX12_storm_144 : decode cX12_storm 144 = .ok (.lcmp, 1) := by decide +kernel
theorem dX12_storm_145 : decode cX12_storm 145 = .ok (.ifCond .ne 7, 3) := by decide +kernel
theorem dX12_storm_148 : decode cX12_storm 148 = .ok (.iconst 1, 1) := by decide +kernel
theorem dX12_storm_149 : decode cX12_storm 149 = .ok (.goto 4, 3) := by decide +kernel
theorem dX12_storm_152 : decode cX12_storm 152 = .ok (.iconst 0, 1) := by decide +kernel
theorem dX12_storm_153 : decode cX12_storm 153 = .ok (.istore 7, 2) := by decide +kernel
theorem dX12_storm_155 : decode cX12_storm 155 = .ok (.aload_n 0, 1) := by decide +kernel
theorem dX12_storm_156 : decode cX12_storm 156 = .ok (.getfield 82, 3) := by decide +kernel
theorem dX12_storm_159 : decode cX12_storm 159 = .ok (.iload 6, 2) := by decide +kernel
theorem dX12_storm_161 : decode cX12_storm 161 = .ok (.dup2, 1) := by decide +kernel
theorem dX12_storm_162 : decode cX12_storm 162 = .ok (.iaload, 1) := by decide +kernel
theorem dX12_storm_163 : decode cX12_storm 163 = .ok (.iload 7, 2) := by decide +kernel
theorem dX12_storm_165 : decode cX12_storm 165 = .ok (.iadd, 1) := by decide +kernel
theorem dX12_storm_166 : decode cX12_storm 166 = .ok (.iastore, 1) := by decide +kernel
theorem dX12_storm_167 : decode cX12_storm 167 = .ok (.iload 4, 2) := by decide +kernel
theorem dX12_storm_169 : decode cX12_storm 169 = .ok (.iload 7, 2) := by decide +kernel
theorem dX12_storm_171 : decode cX12_storm 171 = .ok (.iadd, 1) := by decide +kernel
theorem dX12_storm_172 : decode cX12_storm 172 = .ok (.istore 4, 2) := by decide +kernel
theorem dX12_storm_174 : decode cX12_storm 174 = .ok (.iinc 6 1, 3) := by decide +kernel
theorem dX12_storm_177 : decode cX12_storm 177 = .ok (.goto (-71), 3) := by decide +kernel
theorem dX12_storm_180 : decode cX12_storm 180 = .ok (.iinc 5 1, 3) := by decide +kernel
theorem dX12_storm_183 : decode cX12_storm 183 = .ok (.goto (-86), 3) := by decide +kernel
theorem dX12_storm_186 : decode cX12_storm 186 = .ok (.iconst 0, 1) := by decide +kernel
theorem dX12_storm_187 : decode cX12_storm 187 = .ok (.istore 5, 2) := by decide +kernel
theorem dX12_storm_189 : decode cX12_storm 189 = .ok (.iload 5, 2) := by decide +kernel
theorem dX12_storm_191 : decode cX12_storm 191 = .ok (.aload_n 0, 1) := by decide +kernel
theorem dX12_storm_192 : decode cX12_storm 192 = .ok (.getfield 448, 3) := by decide +kernel
theorem dX12_storm_195 : decode cX12_storm 195 = .ok (.if_icmp .ge 39, 3) := by decide +kernel
theorem dX12_storm_198 : decode cX12_storm 198 = .ok (.aload_n 0, 1) := by decide +kernel
theorem dX12_storm_199 : decode cX12_storm 199 = .ok (.getfield 85, 3) := by decide +kernel
theorem dX12_storm_202 : decode cX12_storm 202 = .ok (.iload 5, 2) := by decide +kernel
theorem dX12_storm_204 : decode cX12_storm 204 = .ok (.aload_n 0, 1) := by decide +kernel
theorem dX12_storm_205 : decode cX12_storm 205 = .ok (.iload 5, 2) := by decide +kernel
theorem dX12_storm_207 : decode cX12_storm 207 = .ok (.aload_n 0, 1) := by decide +kernel
theorem dX12_storm_208 : decode cX12_storm 208 = .ok (.iload 5, 2) := by decide +kernel
theorem dX12_storm_210 : decode cX12_storm 210 = .ok (.iload_n 2, 1) := by decide +kernel
theorem dX12_storm_211 : decode cX12_storm 211 = .ok (.iload_n 3, 1) := by decide +kernel
theorem dX12_storm_212 : decode cX12_storm 212 = .ok (.iadd, 1) := by decide +kernel
theorem dX12_storm_213 : decode cX12_storm 213 = .ok (.aload_n 0, 1) := by decide +kernel
theorem dX12_storm_214 : decode cX12_storm 214 = .ok (.getfield 82, 3) := by decide +kernel
theorem dX12_storm_217 : decode cX12_storm 217 = .ok (.iload 5, 2) := by decide +kernel
theorem dX12_storm_219 : decode cX12_storm 219 = .ok (.iaload, 1) := by decide +kernel
theorem dX12_storm_220 : decode cX12_storm 220 = .ok (.isub, 1) := by decide +kernel
theorem dX12_storm_221 : decode cX12_storm 221 = .ok (.invokevirtual 307, 3) := by decide +kernel
theorem dX12_storm_224 : decode cX12_storm 224 = .ok (.invokevirtual 349, 3) := by decide +kernel
theorem dX12_storm_227 : decode cX12_storm 227 = .ok (.iastore, 1) := by decide +kernel
theorem dX12_storm_228 : decode cX12_storm 228 = .ok (.iinc 5 1, 3) := by decide +kernel
theorem dX12_storm_231 : decode cX12_storm 231 = .ok (.goto (-42), 3) := by decide +kernel
theorem dX12_storm_234 : decode cX12_storm 234 = .ok (.aload_n 0, 1) := by decide +kernel
theorem dX12_storm_235 : decode cX12_storm 235 = .ok (.iload 4, 2) := by decide +kernel
theorem dX12_storm_237 : decode cX12_storm 237 = .ok (.invokevirtual 102, 3) := by decide +kernel
theorem dX12_storm_240 : decode cX12_storm 240 = .ok (.ireturn, 1) := by decide +kernel
theorem dX12_stormed_0 : decode cX12_stormed 0 = .ok (.aload_n 0, 1) := by decide +kernel
theorem dX12_stormed_1 : decode cX12_stormed 1 = .ok (.iconst 0, 1) := by decide +kernel
theorem dX12_stormed_2 : decode cX12_stormed 2 = .ok (.putfield 88, 3) := by decide +kernel
theorem dX12_stormed_5 : decode cX12_stormed 5 = .ok (.iload_n 1, 1) := by decide +kernel
theorem dX12_stormed_6 : decode cX12_stormed 6 = .ok (.i2l, 1) := by decide +kernel
theorem dX12_stormed_7 : decode cX12_stormed 7 = .ok (.lconst 0, 1) := by decide +kernel
theorem dX12_stormed_8 : decode cX12_stormed 8 = .ok (.aload_n 0, 1) := by decide +kernel
theorem dX12_stormed_9 : decode cX12_stormed 9 = .ok (.getfield 448, 3) := by decide +kernel
theorem dX12_stormed_12 : decode cX12_stormed 12 = .ok (.i2l, 1) := by decide +kernel
theorem dX12_stormed_13 : decode cX12_stormed 13 = .ok (.lconst 1, 1) := by decide +kernel
theorem dX12_stormed_14 : decode cX12_stormed 14 = .ok (.lsub, 1) := by decide +kernel
theorem dX12_stormed_15 : decode cX12_stormed 15 = .ok (.invokestatic 98, 3) := by decide +kernel
theorem dX12_stormed_18 : decode cX12_stormed 18 = .ok (.ifCond .eq 35, 3) := by decide +kernel
theorem dX12_stormed_21 : decode cX12_stormed 21 = .ok (.iload_n 2, 1) := by decide +kernel
theorem dX12_stormed_22 : decode cX12_stormed 22 = .ok (.i2l, 1) := by decide +kernel
theorem dX12_stormed_23 : decode cX12_stormed 23 = .ok (.lconst 0, 1) := by decide +kernel
theorem dX12_stormed_24 : decode cX12_stormed 24 = .ok (.lconst 1, 1) := by decide +kernel
theorem dX12_stormed_25 : decode cX12_stormed 25 = .ok (.invokestatic 98, 3) := by decide +kernel
theorem dX12_stormed_28 : decode cX12_stormed 28 = .ok (.ifCond .eq 25, 3) := by decide +kernel
theorem dX12_stormed_31 : decode cX12_stormed 31 = .ok (.iload_n 2, 1) := by decide +kernel
theorem dX12_stormed_32 : decode cX12_stormed 32 = .ok (.ifCond .ne 12, 3) := by decide +kernel
theorem dX12_stormed_35 : decode cX12_stormed 35 = .ok (.aload_n 0, 1) := by decide +kernel
theorem dX12_stormed_36 : decode cX12_stormed 36 = .ok (.getfield 85, 3) := by decide +kernel
theorem dX12_stormed_39 : decode cX12_stormed 39 = .ok (.iload_n 1, 1) := by decide +kernel
theorem dX12_stormed_40 : decode cX12_stormed 40 = .ok (.iaload, 1) := by decide +kernel
theorem dX12_stormed_41 : decode cX12_stormed 41 = .ok (.goto 13, 3) := by decide +kernel
theorem dX12_stormed_44 : decode cX12_stormed 44 = .ok (.aload_n 0, 1) := by decide +kernel
theorem dX12_stormed_45 : decode cX12_stormed 45 = .ok (.getfield 82, 3) := by decide +kernel
theorem dX12_stormed_48 : decode cX12_stormed 48 = .ok (.iload_n 1, 1) := by decide +kernel
theorem dX12_stormed_49 : decode cX12_stormed 49 = .ok (.iaload, 1) := by decide +kernel
theorem dX12_stormed_50 : decode cX12_stormed 50 = .ok (.goto 4, 3) := by decide +kernel
theorem dX12_stormed_53 : decode cX12_stormed 53 = .ok (.iconst (-1), 1) := by decide +kernel
theorem dX12_stormed_54 : decode cX12_stormed 54 = .ok (.ireturn, 1) := by decide +kernel
theorem dX12_count_0 : decode cX12_count 0 = .ok (.aload_n 0, 1) := by decide +kernel
theorem dX12_count_1 : decode cX12_count 1 = .ok (.iconst 0, 1) := by decide +kernel
theorem dX12_count_2 : decode cX12_count 2 = .ok (.putfield 88, 3) := by decide +kernel
theorem dX12_count_5 : decode cX12_count 5 = .ok (.iload_n 1, 1) := by decide +kernel
theorem dX12_count_6 : decode cX12_count 6 = .ok (.tableswitch 146 0 11 #[62, 69, 76, 83, 90, 97, 102, 109, 116, 123, 131, 138], 62) := by decide +kernel
theorem dX12_count_68 : decode cX12_count 68 = .ok (.aload_n 0, 1) := by decide +kernel
theorem dX12_count_69 : decode cX12_count 69 = .ok (.getfield 13, 3) := by decide +kernel
theorem dX12_count_72 : decode cX12_count 72 = .ok (.iconst 0, 1) := by decide +kernel
theorem dX12_count_73 : decode cX12_count 73 = .ok (.iaload, 1) := by decide +kernel
theorem dX12_count_74 : decode cX12_count 74 = .ok (.ireturn, 1) := by decide +kernel
theorem dX12_count_75 : decode cX12_count 75 = .ok (.aload_n 0, 1) := by decide +kernel
theorem dX12_count_76 : decode cX12_count 76 = .ok (.getfield 13, 3) := by decide +kernel
theorem dX12_count_79 : decode cX12_count 79 = .ok (.iconst 1, 1) := by decide +kernel
theorem dX12_count_80 : decode cX12_count 80 = .ok (.iaload, 1) := by decide +kernel
theorem dX12_count_81 : decode cX12_count 81 = .ok (.ireturn, 1) := by decide +kernel
theorem dX12_count_82 : decode cX12_count 82 = .ok (.aload_n 0, 1) := by decide +kernel
theorem dX12_count_83 : decode cX12_count 83 = .ok (.getfield 13, 3) := by decide +kernel
theorem dX12_count_86 : decode cX12_count 86 = .ok (.iconst 2, 1) := by decide +kernel
theorem dX12_count_87 : decode cX12_count 87 = .ok (.iaload, 1) := by decide +kernel
theorem dX12_count_88 : decode cX12_count 88 = .ok (.ireturn, 1) := by decide +kernel
theorem dX12_count_89 : decode cX12_count 89 = .ok (.aload_n 0, 1) := by decide +kernel
theorem dX12_count_90 : decode cX12_count 90 = .ok (.getfield 13, 3) := by decide +kernel
theorem dX12_count_93 : decode cX12_count 93 = .ok (.iconst 4, 1) := by decide +kernel
theorem dX12_count_94 : decode cX12_count 94 = .ok (.iaload, 1) := by decide +kernel
theorem dX12_count_95 : decode cX12_count 95 = .ok (.ireturn, 1) := by decide +kernel
theorem dX12_count_96 : decode cX12_count 96 = .ok (.aload_n 0, 1) := by decide +kernel
theorem dX12_count_97 : decode cX12_count 97 = .ok (.getfield 13, 3) := by decide +kernel
theorem dX12_count_100 : decode cX12_count 100 = .ok (.iconst 5, 1) := by decide +kernel
theorem dX12_count_101 : decode cX12_count 101 = .ok (.iaload, 1) := by decide +kernel
theorem dX12_count_102 : decode cX12_count 102 = .ok (.ireturn, 1) := by decide +kernel
theorem dX12_count_103 : decode cX12_count 103 = .ok (.aload_n 0, 1) := by decide +kernel
theorem dX12_count_104 : decode cX12_count 104 = .ok (.getfield 138, 3) := by decide +kernel
theorem dX12_count_107 : decode cX12_count 107 = .ok (.ireturn, 1) := by decide +kernel
theorem dX12_count_108 : decode cX12_count 108 = .ok (.aload_n 0, 1) := by decide +kernel
theorem dX12_count_109 : decode cX12_count 109 = .ok (.getfield 7, 3) := by decide +kernel
theorem dX12_count_112 : decode cX12_count 112 = .ok (.iconst 1, 1) := by decide +kernel
theorem dX12_count_113 : decode cX12_count 113 = .ok (.iaload, 1) := by decide +kernel
theorem dX12_count_114 : decode cX12_count 114 = .ok (.ireturn, 1) := by decide +kernel
theorem dX12_count_115 : decode cX12_count 115 = .ok (.aload_n 0, 1) := by decide +kernel
theorem dX12_count_116 : decode cX12_count 116 = .ok (.getfield 7, 3) := by decide +kernel
theorem dX12_count_119 : decode cX12_count 119 = .ok (.iconst 2, 1) := by decide +kernel
theorem dX12_count_120 : decode cX12_count 120 = .ok (.iaload, 1) := by decide +kernel
theorem dX12_count_121 : decode cX12_count 121 = .ok (.ireturn, 1) := by decide +kernel
theorem dX12_count_122 : decode cX12_count 122 = .ok (.aload_n 0, 1) := by decide +kernel
theorem dX12_count_123 : decode cX12_count 123 = .ok (.getfield 7, 3) := by decide +kernel
theorem dX12_count_126 : decode cX12_count 126 = .ok (.iconst 5, 1) := by decide +kernel
theorem dX12_count_127 : decode cX12_count 127 = .ok (.iaload, 1) := by decide +kernel
theorem dX12_count_128 : decode cX12_count 128 = .ok (.ireturn, 1) := by decide +kernel
theorem dX12_count_129 : decode cX12_count 129 = .ok (.aload_n 0, 1) := by decide +kernel
theorem dX12_count_130 : decode cX12_count 130 = .ok (.getfield 7, 3) := by decide +kernel
theorem dX12_count_133 : decode cX12_count 133 = .ok (.bipush 6, 2) := by decide +kernel
theorem dX12_count_135 : decode cX12_count 135 = .ok (.iaload, 1) := by decide +kernel
theorem dX12_count_136 : decode cX12_count 136 = .ok (.ireturn, 1) := by decide +kernel
theorem dX12_count_137 : decode cX12_count 137 = .ok (.aload_n 0, 1) := by decide +kernel
theorem dX12_count_138 : decode cX12_count 138 = .ok (.getfield 13, 3) := by decide +kernel
theorem dX12_count_141 : decode cX12_count 141 = .ok (.iconst 3, 1) := by decide +kernel
theorem dX12_count_142 : decode cX12_count 142 = .ok (.iaload, 1) := by decide +kernel
theorem dX12_count_143 : decode cX12_count 143 = .ok (.ireturn, 1) := by decide +kernel
theorem dX12_count_144 : decode cX12_count 144 = .ok (.aload_n 0, 1) := by decide +kernel
theorem dX12_count_145 : decode cX12_count 145 = .ok (.getfield 13, 3) := by decide +kernel
theorem dX12_count_148 : decode cX12_count 148 = .ok (.bipush 6, 2) := by decide +kernel
theorem dX12_count_150 : decode cX12_count 150 = .ok (.iaload, 1) := by decide +kernel
theorem dX12_count_151 : decode cX12_count 151 = .ok (.ireturn, 1) := by decide +kernel
theorem dX12_count_152 : decode cX12_count 152 = .ok (.iconst (-1), 1) := by decide +kernel
theorem dX12_count_153 : decode cX12_count 153 = .ok (.ireturn, 1) := by decide +kernel
theorem dX12_status_0 : decode cX12_status 0 = .ok (.aload_n 0, 1) := by decide +kernel
theorem dX12_status_1 : decode cX12_status 1 = .ok (.iconst 0, 1) := by decide +kernel
theorem dX12_status_2 : decode cX12_status 2 = .ok (.putfield 88, 3) := by decide +kernel
theorem dX12_status_5 : decode cX12_status 5 = .ok (.aload_n 0, 1) := by decide +kernel
theorem dX12_status_6 : decode cX12_status 6 = .ok (.getfield 91, 3) := by decide +kernel
theorem dX12_status_9 : decode cX12_status 9 = .ok (.ireturn, 1) := by decide +kernel
