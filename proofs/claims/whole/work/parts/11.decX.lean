theorem dX0_init_0 : decode cX0_init 0 = .ok (.aload_n 0, 1) := by decide +kernel
theorem dX0_init_1 : decode cX0_init 1 = .ok (.invokespecial 3, 3) := by decide +kernel
theorem dX0_init_4 : decode cX0_init 4 = .ok (.aload_n 0, 1) := by decide +kernel
theorem dX0_init_5 : decode cX0_init 5 = .ok (.bipush 64, 2) := by decide +kernel
theorem dX0_init_7 : decode cX0_init 7 = .ok (.newarray .long, 2) := by decide +kernel
theorem dX0_init_9 : decode cX0_init 9 = .ok (.putfield 9, 3) := by decide +kernel
theorem dX0_init_12 : decode cX0_init 12 = .ok (.aload_n 0, 1) := by decide +kernel
theorem dX0_init_13 : decode cX0_init 13 = .ok (.iconst 0, 1) := by decide +kernel
theorem dX0_init_14 : decode cX0_init 14 = .ok (.putfield 15, 3) := by decide +kernel
theorem dX0_init_17 : decode cX0_init 17 = .ok (.aload_n 0, 1) := by decide +kernel
theorem dX0_init_18 : decode cX0_init 18 = .ok (.iconst 1, 1) := by decide +kernel
theorem dX0_init_19 : decode cX0_init 19 = .ok (.putfield 19, 3) := by decide +kernel
theorem dX0_init_22 : decode cX0_init 22 = .ok (.aload_n 0, 1) := by decide +kernel
theorem dX0_init_23 : decode cX0_init 23 = .ok (.iconst 0, 1) := by decide +kernel
theorem dX0_init_24 : decode cX0_init 24 = .ok (.putfield 23, 3) := by decide +kernel
theorem dX0_init_27 : decode cX0_init 27 = .ok (.aload_n 0, 1) := by decide +kernel
theorem dX0_init_28 : decode cX0_init 28 = .ok (.aconst_null, 1) := by decide +kernel
theorem dX0_init_29 : decode cX0_init 29 = .ok (.putfield 26, 3) := by decide +kernel
theorem dX0_init_32 : decode cX0_init 32 = .ok (.aload_n 0, 1) := by decide +kernel
theorem dX0_init_33 : decode cX0_init 33 = .ok (.iconst 0, 1) := by decide +kernel
theorem dX0_init_34 : decode cX0_init 34 = .ok (.putfield 30, 3) := by decide +kernel
theorem dX0_init_37 : decode cX0_init 37 = .ok (.return_, 1) := by decide +kernel
theorem dX0_tells_0 : decode cX0_tells 0 = .ok (.aload_n 1, 1) := by decide +kernel
theorem dX0_tells_1 : decode cX0_tells 1 = .ok (.ifnull 7, 3) := by decide +kernel
theorem dX0_tells_4 : decode cX0_tells 4 = .ok (.aload_n 3, 1) := by decide +kernel
theorem dX0_tells_5 : decode cX0_tells 5 = .ok (.ifnonnull 6, 3) := by decide +kernel
theorem dX0_tells_8 : decode cX0_tells 8 = .ok (.ldc 33, 2) := by decide +kernel
theorem dX0_tells_10 : decode cX0_tells 10 = .ok (.ireturn, 1) := by decide +kernel
theorem dX0_tells_11 : decode cX0_tells 11 = .ok (.aload_n 0, 1) := by decide +kernel
theorem dX0_tells_12 : decode cX0_tells 12 = .ok (.iload_n 2, 1) := by decide +kernel
theorem dX0_tells_13 : decode cX0_tells 13 = .ok (.putfield 23, 3) := by decide +kernel
theorem dX0_tells_16 : decode cX0_tells 16 = .ok (.aload_n 0, 1) := by decide +kernel
theorem dX0_tells_17 : decode cX0_tells 17 = .ok (.aload_n 3, 1) := by decide +kernel
theorem dX0_tells_18 : decode cX0_tells 18 = .ok (.putfield 26, 3) := by decide +kernel
theorem dX0_tells_21 : decode cX0_tells 21 = .ok (.aload_n 0, 1) := by decide +kernel
theorem dX0_tells_22 : decode cX0_tells 22 = .ok (.iload 4, 2) := by decide +kernel
theorem dX0_tells_24 : decode cX0_tells 24 = .ok (.putfield 30, 3) := by decide +kernel
theorem dX0_tells_27 : decode cX0_tells 27 = .ok (.aload_n 1, 1) := by decide +kernel
theorem dX0_tells_28 : decode cX0_tells 28 = .ok (.invokevirtual 34, 3) := by decide +kernel
theorem dX0_tells_31 : decode cX0_tells 31 = .ok (.iconst 1, 1) := by decide +kernel
theorem dX0_tells_32 : decode cX0_tells 32 = .ok (.isub, 1) := by decide +kernel
theorem dX0_tells_33 : decode cX0_tells 33 = .ok (.istore 5, 2) := by decide +kernel
theorem dX0_tells_35 : decode cX0_tells 35 = .ok (.iload 5, 2) := by decide +kernel
theorem dX0_tells_37 : decode cX0_tells 37 = .ok (.ifCond .lt 27, 3) := by decide +kernel
theorem dX0_tells_40 : decode cX0_tells 40 = .ok (.aload_n 0, 1) := by decide +kernel
theorem dX0_tells_41 : decode cX0_tells 41 = .ok (.aload_n 1, 1) := by decide +kernel
theorem dX0_tells_42 : decode cX0_tells 42 = .ok (.iload 5, 2) := by decide +kernel
theorem dX0_tells_44 : decode cX0_tells 44 = .ok (.invokevirtual 40, 3) := by decide +kernel
theorem dX0_tells_47 : decode cX0_tells 47 = .ok (.ifCond .eq 11, 3) := by decide +kernel
theorem dX0_tells_50 : decode cX0_tells 50 = .ok (.aload_n 0, 1) := by decide +kernel
theorem dX0_tells_51 : decode cX0_tells 51 = .ok (.getfield 9, 3) := by decide +kernel
theorem dX0_tells_54 : decode cX0_tells 54 = .ok (.iconst 0, 1) := by decide +kernel
theorem dX0_tells_55 : decode cX0_tells 55 = .ok (.laload, 1) := by decide +kernel
theorem dX0_tells_56 : decode cX0_tells 56 = .ok (.l2i, 1) := by decide +kernel
theorem dX0_tells_57 : decode cX0_tells 57 = .ok (.ireturn, 1) := by decide +kernel
theorem dX0_tells_58 : decode cX0_tells 58 = .ok (.iinc 5 (-1), 3) := by decide +kernel
theorem dX0_tells_61 : decode cX0_tells 61 = .ok (.goto (-26), 3) := by decide +kernel
theorem dX0_tells_64 : decode cX0_tells 64 = .ok (.ldc 33, 2) := by decide +kernel
theorem dX0_tells_66 : decode cX0_tells 66 = .ok (.ireturn, 1) := by decide +kernel
theorem dX0_holds_0 : decode cX0_holds 0 = .ok (.aload_n 0, 1) := by decide +kernel
theorem dX0_holds_1 : decode cX0_holds 1 = .ok (.iconst 0, 1) := by decide +kernel
theorem dX0_holds_2 : decode cX0_holds 2 = .ok (.putfield 15, 3) := by decide +kernel
theorem dX0_holds_5 : decode cX0_holds 5 = .ok (.aload_n 0, 1) := by decide +kernel
theorem dX0_holds_6 : decode cX0_holds 6 = .ok (.iconst 1, 1) := by decide +kernel
theorem dX0_holds_7 : decode cX0_holds 7 = .ok (.putfield 19, 3) := by decide +kernel
theorem dX0_holds_10 : decode cX0_holds 10 = .ok (.aload_n 1, 1) := by decide +kernel
theorem dX0_holds_11 : decode cX0_holds 11 = .ok (.iload_n 2, 1) := by decide +kernel
theorem dX0_holds_12 : decode cX0_holds 12 = .ok (.iconst 1, 1) := by decide +kernel
theorem dX0_holds_13 : decode cX0_holds 13 = .ok (.iadd, 1) := by decide +kernel
theorem dX0_holds_14 : decode cX0_holds 14 = .ok (.invokevirtual 44, 3) := by decide +kernel
theorem dX0_holds_17 : decode cX0_holds 17 = .ok (.istore_n 3, 1) := by decide +kernel
theorem dX0_holds_18 : decode cX0_holds 18 = .ok (.aload_n 1, 1) := by decide +kernel
theorem dX0_holds_19 : decode cX0_holds 19 = .ok (.iload_n 2, 1) := by decide +kernel
theorem dX0_holds_20 : decode cX0_holds 20 = .ok (.invokevirtual 44, 3) := by decide +kernel
theorem dX0_holds_23 : decode cX0_holds 23 = .ok (.istore 4, 2) := by decide +kernel
theorem dX0_holds_25 : decode cX0_holds 25 = .ok (.iload 4, 2) := by decide +kernel
theorem dX0_holds_27 : decode cX0_holds 27 = .ok (.iload_n 3, 1) := by decide +kernel
theorem dX0_holds_28 : decode cX0_holds 28 = .ok (.if_icmp .ge 138, 3) := by decide +kernel
theorem dX0_holds_31 : decode cX0_holds 31 = .ok (.aload_n 1, 1) := by decide +kernel
theorem dX0_holds_32 : decode cX0_holds 32 = .ok (.iload 4, 2) := by decide +kernel
theorem dX0_holds_34 : decode cX0_holds 34 = .ok (.invokevirtual 48, 3) := by decide +kernel
theorem dX0_holds_37 : decode cX0_holds 37 = .ok (.istore 5, 2) := by decide +kernel
theorem dX0_holds_39 : decode cX0_holds 39 = .ok (.iload 5, 2) := by decide +kernel
theorem dX0_holds_41 : decode cX0_holds 41 = .ok (.bipush 31, 2) := by decide +kernel
theorem dX0_holds_43 : decode cX0_holds 43 = .ok (.iand, 1) := by decide +kernel
theorem dX0_holds_44 : decode cX0_holds 44 = .ok (.istore 6, 2) := by decide +kernel
theorem dX0_holds_46 : decode cX0_holds 46 = .ok (.iload 5, 2) := by decide +kernel
theorem dX0_holds_48 : decode cX0_holds 48 = .ok (.iconst 5, 1) := by decide +kernel
theorem dX0_holds_49 : decode cX0_holds 49 = .ok (.ishr, 1) := by decide +kernel
theorem dX0_holds_50 : decode cX0_holds 50 = .ok (.istore 7, 2) := by decide +kernel
theorem dX0_holds_52 : decode cX0_holds 52 = .ok (.iload 6, 2) := by decide +kernel
theorem dX0_holds_54 : decode cX0_holds 54 = .ok (.bipush 16, 2) := by decide +kernel
theorem dX0_holds_56 : decode cX0_holds 56 = .ok (.if_icmp .eq 10, 3) := by decide +kernel
theorem dX0_holds_59 : decode cX0_holds 59 = .ok (.iload 6, 2) := by decide +kernel
theorem dX0_holds_61 : decode cX0_holds 61 = .ok (.bipush 15, 2) := by decide +kernel
theorem dX0_holds_63 : decode cX0_holds 63 = .ok (.if_icmp .ne 36, 3) := by decide +kernel
theorem dX0_holds_66 : decode cX0_holds 66 = .ok (.aload_n 0, 1) := by decide +kernel
theorem dX0_holds_67 : decode cX0_holds 67 = .ok (.getfield 19, 3) := by decide +kernel
theorem dX0_holds_70 : decode cX0_holds 70 = .ok (.iload 6, 2) := by decide +kernel
theorem dX0_holds_72 : decode cX0_holds 72 = .ok (.bipush 16, 2) := by decide +kernel
theorem dX0_holds_74 : decode cX0_holds 74 = .ok (.if_icmp .ne 7, 3) := by decide +kernel
theorem dX0_holds_77 : decode cX0_holds 77 = .ok (.iconst 1, 1) := by decide +kernel
theorem dX0_holds_78 : decode cX0_holds 78 = .ok (.goto 4, 3) := by decide +kernel
theorem dX0_holds_81 : decode cX0_holds 81 = .ok (.iconst 0, 1) := by decide +kernel
theorem dX0_holds_82 : decode cX0_holds 82 = .ok (.if_icmp .ne 78, 3) := by decide +kernel
theorem dX0_holds_85 : decode cX0_holds 85 = .ok (.iload 4, 2) := by decide +kernel
theorem dX0_holds_87 : decode cX0_holds 87 = .ok (.iload 7, 2) := by decide +kernel
theorem dX0_holds_89 : decode cX0_holds 89 = .ok (.iconst 1, 1) := by decide +kernel
theorem dX0_holds_90 : decode cX0_holds 90 = .ok (.isub, 1) := by decide +kernel
theorem dX0_holds_91 : decode cX0_holds 91 = .ok (.invokestatic 51, 3) := by decide +kernel
theorem dX0_holds_94 : decode cX0_holds 94 = .ok (.istore 4, 2) := by decide +kernel
theorem dX0_holds_96 : decode cX0_holds 96 = .ok (.goto 64, 3) := by decide +kernel
theorem dX0_holds_99 : decode cX0_holds 99 = .ok (.iload 6, 2) := by decide +kernel
theorem dX0_holds_101 : decode cX0_holds 101 = .ok (.bipush 14, 2) := by decide +kernel
theorem dX0_holds_103 : decode cX0_holds 103 = .ok (.if_icmp .ne 22, 3) := by decide +kernel
theorem dX0_holds_106 : decode cX0_holds 106 = .ok (.aload_n 0, 1) := by decide +kernel
theorem dX0_holds_107 : decode cX0_holds 107 = .ok (.aload_n 0, 1) := by decide +kernel
theorem dX0_holds_108 : decode cX0_holds 108 = .ok (.getfield 19, 3) := by decide +kernel
theorem dX0_holds_111 : decode cX0_holds 111 = .ok (.ifCond .ne 7, 3) := by decide +kernel
theorem dX0_holds_114 : decode cX0_holds 114 = .ok (.iconst 1, 1) := by decide +kernel
theorem dX0_holds_115 : decode cX0_holds 115 = .ok (.goto 4, 3) := by decide +kernel
theorem dX0_holds_118 : decode cX0_holds 118 = .ok (.iconst 0, 1) := by decide +kernel
theorem dX0_holds_119 : decode cX0_holds 119 = .ok (.putfield 19, 3) := by decide +kernel
theorem dX0_holds_122 : decode cX0_holds 122 = .ok (.goto 38, 3) := by decide +kernel
theorem dX0_holds_125 : decode cX0_holds 125 = .ok (.iload 6, 2) := by decide +kernel
theorem dX0_holds_127 : decode cX0_holds 127 = .ok (.bipush 6, 2) := by decide +kernel
theorem dX0_holds_129 : decode cX0_holds 129 = .ok (.if_icmp .lt 14, 3) := by decide +kernel
theorem dX0_holds_132 : decode cX0_holds 132 = .ok (.aload_n 0, 1) := by decide +kernel
theorem dX0_holds_133 : decode cX0_holds 133 = .ok (.iload 6, 2) := by decide +kernel
theorem dX0_holds_135 : decode cX0_holds 135 = .ok (.invokevirtual 57, 3) := by decide +kernel
theorem dX0_holds_138 : decode cX0_holds 138 = .ok (.ifCond .ne 22, 3) := by decide +kernel
theorem dX0_holds_141 : decode cX0_holds 141 = .ok (.iconst 0, 1) := by decide +kernel
theorem dX0_holds_142 : decode cX0_holds 142 = .ok (.ireturn, 1) := by decide +kernel
theorem dX0_holds_143 : decode cX0_holds 143 = .ok (.aload_n 0, 1) := by decide +kernel
theorem dX0_holds_144 : decode cX0_holds 144 = .ok (.aload_n 0, 1) := by decide +kernel
theorem dX0_holds_145 : decode cX0_holds 145 = .ok (.iload 6, 2) := by decide +kernel
theorem dX0_holds_147 : decode cX0_holds 147 = .ok (.iload 7, 2) := by decide +kernel
theorem dX0_holds_149 : decode cX0_holds 149 = .ok (.invokevirtual 61, 3) := by decide +kernel
theorem dX0_holds_152 : decode cX0_holds 152 = .ok (.invokevirtual 65, 3) := by decide +kernel
theorem dX0_holds_155 : decode cX0_holds 155 = .ok (.ifCond .ne 5, 3) := by decide +kernel
theorem dX0_holds_158 : decode cX0_holds 158 = .ok (.iconst 0, 1) := by decide +kernel
theorem dX0_holds_159 : decode cX0_holds 159 = .ok (.ireturn, 1) := by decide +kernel
theorem dX0_holds_160 : decode cX0_holds 160 = .ok (.iinc 4 1, 3) := by decide +kernel
theorem dX0_holds_163 : decode cX0_holds 163 = .ok (.goto (-138), 3) := by decide +kernel
theorem dX0_holds_166 : decode cX0_holds 166 = .ok (.aload_n 0, 1) := by decide +kernel
theorem dX0_holds_167 : decode cX0_holds 167 = .ok (.getfield 19, 3) := by decide +kernel
theorem dX0_holds_170 : decode cX0_holds 170 = .ok (.ireturn, 1) := by decide +kernel
theorem dX0_numberFor_0 : decode cX0_numberFor 0 = .ok (.aload_n 0, 1) := by decide +kernel
theorem dX0_numberFor_1 : decode cX0_numberFor 1 = .ok (.getfield 26, 3) := by decide +kernel
theorem dX0_numberFor_4 : decode cX0_numberFor 4 = .ok (.ifnonnull 5, 3) := by decide +kernel
theorem dX0_numberFor_7 : decode cX0_numberFor 7 = .ok (.lconst 0, 1) := by decide +kernel
theorem dX0_numberFor_8 : decode cX0_numberFor 8 = .ok (.lreturn, 1) := by decide +kernel
theorem dX0_numberFor_9 : decode cX0_numberFor 9 = .ok (.iload_n 1, 1) := by decide +kernel
theorem dX0_numberFor_10 : decode cX0_numberFor 10 = .ok (.tableswitch 77 1 5 #[34, 40, 46, 55, 68], 34) := by decide +kernel
theorem dX0_numberFor_44 : decode cX0_numberFor 44 = .ok (.aload_n 0, 1) := by decide +kernel
theorem dX0_numberFor_45 : decode cX0_numberFor 45 = .ok (.getfield 30, 3) := by decide +kernel
theorem dX0_numberFor_48 : decode cX0_numberFor 48 = .ok (.i2l, 1) := by decide +kernel
theorem dX0_numberFor_49 : decode cX0_numberFor 49 = .ok (.lreturn, 1) := by decide +kernel
theorem dX0_numberFor_50 : decode cX0_numberFor 50 = .ok (.aload_n 0, 1) := by decide +kernel
theorem dX0_numberFor_51 : decode cX0_numberFor 51 = .ok (.getfield 23, 3) := by decide +kernel
theorem dX0_numberFor_54 : decode cX0_numberFor 54 = .ok (.i2l, 1) := by decide +kernel
theorem dX0_numberFor_55 : decode cX0_numberFor 55 = .ok (.lreturn, 1) := by decide +kernel
theorem dX0_numberFor_56 : decode cX0_numberFor 56 = .ok (.aload_n 0, 1) := by decide +kernel
theorem dX0_numberFor_57 : decode cX0_numberFor 57 = .ok (.getfield 26, 3) := by decide +kernel
theorem dX0_numberFor_60 : decode cX0_numberFor 60 = .ok (.getfield 69, 3) := by decide +kernel
theorem dX0_numberFor_63 : decode cX0_numberFor 63 = .ok (.i2l, 1) := by decide +kernel
theorem dX0_numberFor_64 : decode cX0_numberFor 64 = .ok (.lreturn, 1) := by decide +kernel
theorem dX0_numberFor_65 : decode cX0_numberFor 65 = .ok (.aload_n 0, 1) := by decide +kernel
theorem dX0_numberFor_66 : decode cX0_numberFor 66 = .ok (.getfield 26, 3) := by decide +kernel
theorem dX0_numberFor_69 : decode cX0_numberFor 69 = .ok (.aload_n 0, 1) := by decide +kernel
theorem dX0_numberFor_70 : decode cX0_numberFor 70 = .ok (.getfield 30, 3) := by decide +kernel
theorem dX0_numberFor_73 : decode cX0_numberFor 73 = .ok (.invokevirtual 74, 3) := by decide +kernel
theorem dX0_numberFor_76 : decode cX0_numberFor 76 = .ok (.i2l, 1) := by decide +kernel
theorem dX0_numberFor_77 : decode cX0_numberFor 77 = .ok (.lreturn, 1) := by decide +kernel
theorem dX0_numberFor_78 : decode cX0_numberFor 78 = .ok (.aload_n 0, 1) := by decide +kernel
theorem dX0_numberFor_79 : decode cX0_numberFor 79 = .ok (.getfield 26, 3) := by decide +kernel
theorem dX0_numberFor_82 : decode cX0_numberFor 82 = .ok (.getfield 77, 3) := by decide +kernel
theorem dX0_numberFor_85 : decode cX0_numberFor 85 = .ok (.i2l, 1) := by decide +kernel
theorem dX0_numberFor_86 : decode cX0_numberFor 86 = .ok (.lreturn, 1) := by decide +kernel
theorem dX0_numberFor_87 : decode cX0_numberFor 87 = .ok (.iload_n 2, 1) := by decide +kernel
theorem dX0_numberFor_88 : decode cX0_numberFor 88 = .ok (.i2l, 1) := by decide +kernel
theorem dX0_numberFor_89 : decode cX0_numberFor 89 = .ok (.lreturn, 1) := by decide +kernel
theorem dX0_openNumber_0 : decode cX0_openNumber 0 = .ok (.aload_n 0, 1) := by decide +kernel
theorem dX0_openNumber_1 : decode cX0_openNumber 1 = .ok (.getfield 15, 3) := by decide +kernel
theorem dX0_openNumber_4 : decode cX0_openNumber 4 = .ok (.ifCond .lt 15, 3) := by decide +kernel
theorem dX0_openNumber_7 : decode cX0_openNumber 7 = .ok (.aload_n 0, 1) := by decide +kernel
theorem dX0_openNumber_8 : decode cX0_openNumber 8 = .ok (.getfield 15, 3) := by decide +kernel
theorem dX0_openNumber_11 : decode cX0_openNumber 11 = .ok (.aload_n 0, 1) := by decide +kernel
theorem dX0_openNumber_12 : decode cX0_openNumber 12 = .ok (.getfield 9, 3) := by decide +kernel
theorem dX0_openNumber_15 : decode cX0_openNumber 15 = .ok (.arraylength, 1) := by decide +kernel
theorem dX0_openNumber_16 : decode cX0_openNumber 16 = .ok (.if_icmp .lt 5, 3) := by decide +kernel
theorem dX0_openNumber_19 : decode cX0_openNumber 19 = .ok (.iconst 0, 1) := by decide +kernel
theorem dX0_openNumber_20 : decode cX0_openNumber 20 = .ok (.ireturn, 1) := by decide +kernel
theorem dX0_openNumber_21 : decode cX0_openNumber 21 = .ok (.aload_n 0, 1) := by decide +kernel
theorem dX0_openNumber_22 : decode cX0_openNumber 22 = .ok (.getfield 9, 3) := by decide +kernel
theorem dX0_openNumber_25 : decode cX0_openNumber 25 = .ok (.aload_n 0, 1) := by decide +kernel
theorem dX0_openNumber_26 : decode cX0_openNumber 26 = .ok (.getfield 15, 3) := by decide +kernel
theorem dX0_openNumber_29 : decode cX0_openNumber 29 = .ok (.lload_n 1, 1) := by decide +kernel
theorem dX0_openNumber_30 : decode cX0_openNumber 30 = .ok (.lastore, 1) := by decide +kernel
theorem dX0_openNumber_31 : decode cX0_openNumber 31 = .ok (.aload_n 0, 1) := by decide +kernel
theorem dX0_openNumber_32 : decode cX0_openNumber 32 = .ok (.dup, 1) := by decide +kernel
theorem dX0_openNumber_33 : decode cX0_openNumber 33 = .ok (.getfield 15, 3) := by decide +kernel
theorem dX0_openNumber_36 : decode cX0_openNumber 36 = .ok (.iconst 1, 1) := by decide +kernel
theorem dX0_openNumber_37 : decode cX0_openNumber 37 = .ok (.iadd, 1) := by decide +kernel
theorem dX0_openNumber_38 : decode cX0_openNumber 38 = .ok (.putfield 15, 3) := by decide +kernel
theorem dX0_openNumber_41 : decode cX0_openNumber 41 = .ok (.iconst 1, 1) := by decide +kernel
theorem dX0_openNumber_42 : decode cX0_openNumber 42 = .ok (.ireturn, 1) := by decide +kernel
theorem dX0_joinLastTwo_0 : decode cX0_joinLastTwo 0 = .ok (.aload_n 0, 1) := by decide +kernel
theorem dX0_joinLastTwo_1 : decode cX0_joinLastTwo 1 = .ok (.getfield 15, 3) := by decide +kernel
theorem dX0_joinLastTwo_4 : decode cX0_joinLastTwo 4 = .ok (.iconst 2, 1) := by decide +kernel
theorem dX0_joinLastTwo_5 : decode cX0_joinLastTwo 5 = .ok (.if_icmp .lt 15, 3) := by decide +kernel
theorem dX0_joinLastTwo_8 : decode cX0_joinLastTwo 8 = .ok (.aload_n 0, 1) := by decide +kernel
theorem dX0_joinLastTwo_9 : decode cX0_joinLastTwo 9 = .ok (.getfield 15, 3) := by decide +kernel
theorem dX0_joinLastTwo_12 : decode cX0_joinLastTwo 12 = .ok (.aload_n 0, 1) := by decide +kernel
theorem dX0_joinLastTwo_13 : decode cX0_joinLastTwo 13 = .ok (.getfield 9, 3) := by decide +kernel
theorem dX0_joinLastTwo_16 : decode cX0_joinLastTwo 16 = .ok (.arraylength, 1) := by decide +kernel
theorem dX0_joinLastTwo_17 : decode cX0_joinLastTwo 17 = .ok (.if_icmp .le 5, 3) := by decide +kernel
theorem dX0_joinLastTwo_20 : decode cX0_joinLastTwo 20 = .ok (.iconst 0, 1) := by decide +kernel
theorem dX0_joinLastTwo_21 : decode cX0_joinLastTwo 21 = .ok (.ireturn, 1) := by decide +kernel
theorem dX0_joinLastTwo_22 : decode cX0_joinLastTwo 22 = .ok (.aload_n 0, 1) := by decide +kernel
theorem dX0_joinLastTwo_23 : decode cX0_joinLastTwo 23 = .ok (.getfield 9, 3) := by decide +kernel
theorem dX0_joinLastTwo_26 : decode cX0_joinLastTwo 26 = .ok (.aload_n 0, 1) := by decide +kernel
theorem dX0_joinLastTwo_27 : decode cX0_joinLastTwo 27 = .ok (.getfield 15, 3) := by decide +kernel
theorem dX0_joinLastTwo_30 : decode cX0_joinLastTwo 30 = .ok (.iconst 2, 1) := by decide +kernel
theorem dX0_joinLastTwo_31 : decode cX0_joinLastTwo 31 = .ok (.isub, 1) := by decide +kernel
theorem dX0_joinLastTwo_32 : decode cX0_joinLastTwo 32 = .ok (.laload, 1) := by decide +kernel
theorem dX0_joinLastTwo_33 : decode cX0_joinLastTwo 33 = .ok (.lstore_n 2, 1) := by decide +kernel
theorem dX0_joinLastTwo_34 : decode cX0_joinLastTwo 34 = .ok (.aload_n 0, 1) := by decide +kernel
theorem dX0_joinLastTwo_35 : decode cX0_joinLastTwo 35 = .ok (.getfield 9, 3) := by decide +kernel
theorem dX0_joinLastTwo_38 : decode cX0_joinLastTwo 38 = .ok (.aload_n 0, 1) := by decide +kernel
theorem dX0_joinLastTwo_39 : decode cX0_joinLastTwo 39 = .ok (.getfield 15, 3) := by decide +kernel
theorem dX0_joinLastTwo_42 : decode cX0_joinLastTwo 42 = .ok (.iconst 1, 1) := by decide +kernel
theorem dX0_joinLastTwo_43 : decode cX0_joinLastTwo 43 = .ok (.isub, 1) := by decide +kernel
theorem dX0_joinLastTwo_44 : decode cX0_joinLastTwo 44 = .ok (.laload, 1) := by decide +kernel
theorem dX0_joinLastTwo_45 : decode cX0_joinLastTwo 45 = .ok (.lstore 4, 2) := by decide +kernel
theorem dX0_joinLastTwo_47 : decode cX0_joinLastTwo 47 = .ok (.aload_n 0, 1) := by decide +kernel
theorem dX0_joinLastTwo_48 : decode cX0_joinLastTwo 48 = .ok (.dup, 1) := by decide +kernel
theorem dX0_joinLastTwo_49 : decode cX0_joinLastTwo 49 = .ok (.getfield 15, 3) := by decide +kernel
theorem dX0_joinLastTwo_52 : decode cX0_joinLastTwo 52 = .ok (.iconst 2, 1) := by decide +kernel
theorem dX0_joinLastTwo_53 : decode cX0_joinLastTwo 53 = .ok (.isub, 1) := by decide +kernel
theorem dX0_joinLastTwo_54 : decode cX0_joinLastTwo 54 = .ok (.putfield 15, 3) := by decide +kernel
theorem dX0_joinLastTwo_57 : decode cX0_joinLastTwo 57 = .ok (.iload_n 1, 1) := by decide +kernel
theorem dX0_joinLastTwo_58 : decode cX0_joinLastTwo 58 = .ok (.tableswitch 151 6 13 #[100, 109, 118, 127, 151, 46, 64, 82], 46) := by decide +kernel
theorem dX0_joinLastTwo_104 : decode cX0_joinLastTwo 104 = .ok (.aload_n 0, 1) := by decide +kernel
theorem dX0_joinLastTwo_105 : decode cX0_joinLastTwo 105 = .ok (.lload_n 2, 1) := by decide +kernel
theorem dX0_joinLastTwo_106 : decode cX0_joinLastTwo 106 = .ok (.lload 4, 2) := by decide +kernel
theorem dX0_joinLastTwo_108 : decode cX0_joinLastTwo 108 = .ok (.lcmp, 1) := by decide +kernel
theorem dX0_joinLastTwo_109 : decode cX0_joinLastTwo 109 = .ok (.ifCond .ge 7, 3) := by decide +kernel
theorem dX0_joinLastTwo_112 : decode cX0_joinLastTwo 112 = .ok (.iconst 1, 1) := by decide +kernel
theorem dX0_joinLastTwo_113 : decode cX0_joinLastTwo 113 = .ok (.goto 4, 3) := by decide +kernel
theorem dX0_joinLastTwo_116 : decode cX0_joinLastTwo 116 = .ok (.iconst 0, 1) := by decide +kernel
theorem dX0_joinLastTwo_117 : decode cX0_joinLastTwo 117 = .ok (.putfield 19, 3) := by decide +kernel
theorem dX0_joinLastTwo_120 : decode cX0_joinLastTwo 120 = .ok (.iconst 1, 1) := by decide +kernel
theorem dX0_joinLastTwo_121 : decode cX0_joinLastTwo 121 = .ok (.ireturn, 1) := by decide +kernel
theorem dX0_joinLastTwo_122 : decode cX0_joinLastTwo 122 = .ok (.aload_n 0, 1) := by decide +kernel
theorem dX0_joinLastTwo_123 : decode cX0_joinLastTwo 123 = .ok (.lload_n 2, 1) := by decide +kernel
theorem dX0_joinLastTwo_124 : decode cX0_joinLastTwo 124 = .ok (.lload 4, 2) := by decide +kernel
theorem dX0_joinLastTwo_126 : decode cX0_joinLastTwo 126 = .ok (.lcmp, 1) := by decide +kernel
theorem dX0_joinLastTwo_127 : decode cX0_joinLastTwo 127 = .ok (.ifCond .le 7, 3) := by decide +kernel
theorem dX0_joinLastTwo_130 : decode cX0_joinLastTwo 130 = .ok (.iconst 1, 1) := by decide +kernel
theorem dX0_joinLastTwo_131 : decode cX0_joinLastTwo 131 = .ok (.goto 4, 3) := by decide +kernel
theorem dX0_joinLastTwo_134 : decode cX0_joinLastTwo 134 = .ok (.iconst 0, 1) := by decide +kernel
theorem dX0_joinLastTwo_135 : decode cX0_joinLastTwo 135 = .ok (.putfield 19, 3) := by decide +kernel
theorem dX0_joinLastTwo_138 : decode cX0_joinLastTwo 138 = .ok (.iconst 1, 1) := by decide +kernel
theorem dX0_joinLastTwo_139 : decode cX0_joinLastTwo 139 = .ok (.ireturn, 1) := by decide +kernel
theorem dX0_joinLastTwo_140 : decode cX0_joinLastTwo 140 = .ok (.aload_n 0, 1) := by decide +kernel
theorem dX0_joinLastTwo_141 : decode cX0_joinLastTwo 141 = .ok (.lload_n 2, 1) := by decide +kernel
theorem dX0_joinLastTwo_142 : decode cX0_joinLastTwo 142 = .ok (.lload 4, 2) := by decide +kernel
theorem dX0_joinLastTwo_144 : decode cX0_joinLastTwo 144 = .ok (.lcmp, 1) := by decide +kernel
theorem dX0_joinLastTwo_145 : decode cX0_joinLastTwo 145 = .ok (.ifCond .ne 7, 3) := by decide +kernel
theorem dX0_joinLastTwo_148 : decode cX0_joinLastTwo 148 = .ok (.iconst 1, 1) := by decide +kernel
theorem dX0_joinLastTwo_149 : decode cX0_joinLastTwo 149 = .ok (.goto 4, 3) := by decide +kernel
theorem dX0_joinLastTwo_152 : decode cX0_joinLastTwo 152 = .ok (.iconst 0, 1) := by decide +kernel
theorem dX0_joinLastTwo_153 : decode cX0_joinLastTwo 153 = .ok (.putfield 19, 3) := by decide +kernel
theorem dX0_joinLastTwo_156 : decode cX0_joinLastTwo 156 = .ok (.iconst 1, 1) := by decide +kernel
theorem dX0_joinLastTwo_157 : decode cX0_joinLastTwo 157 = .ok (.ireturn, 1) := by decide +kernel
theorem dX0_joinLastTwo_158 : decode cX0_joinLastTwo 158 = .ok (.aload_n 0, 1) := by decide +kernel
theorem dX0_joinLastTwo_159 : decode cX0_joinLastTwo 159 = .ok (.lload_n 2, 1) := by decide +kernel
theorem dX0_joinLastTwo_160 : decode cX0_joinLastTwo 160 = .ok (.lload 4, 2) := by decide +kernel
theorem dX0_joinLastTwo_162 : decode cX0_joinLastTwo 162 = .ok (.ladd, 1) := by decide +kernel
theorem dX0_joinLastTwo_163 : decode cX0_joinLastTwo 163 = .ok (.invokevirtual 80, 3) := by decide +kernel
theorem dX0_joinLastTwo_166 : decode cX0_joinLastTwo 166 = .ok (.ireturn, 1) := by decide +kernel
theorem dX0_joinLastTwo_167 : decode cX0_joinLastTwo 167 = .ok (.aload_n 0, 1) := by decide +kernel
theorem dX0_joinLastTwo_168 : decode cX0_joinLastTwo 168 = .ok (.lload_n 2, 1) := by decide +kernel
theorem dX0_joinLastTwo_169 : decode cX0_joinLastTwo 169 = .ok (.lload 4, 2) := by decide +kernel
theorem dX0_joinLastTwo_171 : decode cX0_joinLastTwo 171 = .ok (.lsub, 1) := by decide +kernel
theorem dX0_joinLastTwo_172 : decode cX0_joinLastTwo 172 = .ok (.invokevirtual 80, 3) := by decide +kernel
theorem dX0_joinLastTwo_175 : decode cX0_joinLastTwo 175 = .ok (.ireturn, 1) := by decide +kernel
theorem dX0_joinLastTwo_176 : decode cX0_joinLastTwo 176 = .ok (.aload_n 0, 1) := by decide +kernel
theorem dX0_joinLastTwo_177 : decode cX0_joinLastTwo 177 = .ok (.lload_n 2, 1) := by decide +kernel
theorem dX0_joinLastTwo_178 : decode cX0_joinLastTwo 178 = .ok (.lload 4, 2) := by decide +kernel
theorem dX0_joinLastTwo_180 : decode cX0_joinLastTwo 180 = .ok (.lmul, 1) := by decide +kernel
theorem dX0_joinLastTwo_181 : decode cX0_joinLastTwo 181 = .ok (.invokevirtual 80, 3) := by decide +kernel
theorem dX0_joinLastTwo_184 : decode cX0_joinLastTwo 184 = .ok (.ireturn, 1) := by decide +kernel
theorem dX0_joinLastTwo_185 : decode cX0_joinLastTwo 185 = .ok (.lload 4, 2) := by decide +kernel
theorem dX0_joinLastTwo_187 : decode cX0_joinLastTwo 187 = .ok (.lconst 0, 1) := by decide +kernel
theorem dX0_joinLastTwo_188 : decode cX0_joinLastTwo 188 = .ok (.lcmp, 1) := by decide +kernel
theorem dX0_joinLastTwo_189 : decode cX0_joinLastTwo 189 = .ok (.ifCond .eq 18, 3) := by decide +kernel
theorem dX0_joinLastTwo_192 : decode cX0_joinLastTwo 192 = .ok (.aload_n 0, 1) := by decide +kernel
theorem dX0_joinLastTwo_193 : decode cX0_joinLastTwo 193 = .ok (.lload_n 2, 1) := by decide +kernel
theorem dX0_joinLastTwo_194 : decode cX0_joinLastTwo 194 = .ok (.lload 4, 2) := by decide +kernel
theorem dX0_joinLastTwo_196 : decode cX0_joinLastTwo 196 = .ok (.ldiv, 1) := by decide +kernel
theorem dX0_joinLastTwo_197 : decode cX0_joinLastTwo 197 = .ok (.invokevirtual 80, 3) := by decide +kernel
theorem dX0_joinLastTwo_200 : decode cX0_joinLastTwo 200 = .ok (.ifCond .eq 7, 3) := by decide +kernel
theorem dX0_joinLastTwo_203 : decode cX0_joinLastTwo 203 = .ok (.iconst 1, 1) := by decide +kernel
theorem dX0_joinLastTwo_204 : decode cX0_joinLastTwo 204 = .ok (.goto 4, 3) := by decide +kernel
theorem dX0_joinLastTwo_207 : decode cX0_joinLastTwo 207 = .ok (.iconst 0, 1) := by decide +kernel
theorem dX0_joinLastTwo_208 : decode cX0_joinLastTwo 208 = .ok (.ireturn, 1) := by decide +kernel
theorem dX0_joinLastTwo_209 : decode cX0_joinLastTwo 209 = .ok (.lload 4, 2) := by decide +kernel
theorem dX0_joinLastTwo_211 : decode cX0_joinLastTwo 211 = .ok (.lconst 0, 1) := by decide +kernel
theorem dX0_joinLastTwo_212 : decode cX0_joinLastTwo 212 = .ok (.lcmp, 1) := by decide +kernel
theorem dX0_joinLastTwo_213 : decode cX0_joinLastTwo 213 = .ok (.ifCond .eq 18, 3) := by decide +kernel
theorem dX0_joinLastTwo_216 : decode cX0_joinLastTwo 216 = .ok (.aload_n 0, 1) := by decide +kernel
theorem dX0_joinLastTwo_217 : decode cX0_joinLastTwo 217 = .ok (.lload_n 2, 1) := by decide +kernel
theorem dX0_joinLastTwo_218 : decode cX0_joinLastTwo 218 = .ok (.lload 4, 2) := by decide +kernel
theorem dX0_joinLastTwo_220 : decode cX0_joinLastTwo 220 = .ok (.lrem, 1) := by decide +kernel
theorem dX0_joinLastTwo_221 : decode cX0_joinLastTwo 221 = .ok (.invokevirtual 80, 3) := by decide +kernel
theorem dX0_joinLastTwo_224 : decode cX0_joinLastTwo 224 = .ok (.ifCond .eq 7, 3) := by decide +kernel
theorem dX0_joinLastTwo_227 : decode cX0_joinLastTwo 227 = .ok (.iconst 1, 1) := by decide +kernel
theorem dX0_joinLastTwo_228 : decode cX0_joinLastTwo 228 = .ok (.goto 4, 3) := by decide +kernel
theorem dX0_joinLastTwo_231 : decode cX0_joinLastTwo 231 = .ok (.iconst 0, 1) := by decide +kernel
theorem dX0_joinLastTwo_232 : decode cX0_joinLastTwo 232 = .ok (.ireturn, 1) := by decide +kernel
theorem dX0_openSum_0 : decode cX0_openSum 0 = .ok (.lload_n 1, 1) := by decide +kernel
theorem dX0_openSum_1 : decode cX0_openSum 1 = .ok (.ldc2_w 83, 3) := by decide +kernel
theorem dX0_openSum_4 : decode cX0_openSum 4 = .ok (.lcmp, 1) := by decide +kernel
theorem dX0_openSum_5 : decode cX0_openSum 5 = .ok (.ifCond .lt 23, 3) := by decide +kernel
theorem dX0_openSum_8 : decode cX0_openSum 8 = .ok (.lload_n 1, 1) := by decide +kernel
theorem dX0_openSum_9 : decode cX0_openSum 9 = .ok (.ldc2_w 85, 3) := by decide +kernel
theorem dX0_openSum_12 : decode cX0_openSum 12 = .ok (.lcmp, 1) := by decide +kernel
theorem dX0_openSum_13 : decode cX0_openSum 13 = .ok (.ifCond .gt 15, 3) := by decide +kernel
theorem dX0_openSum_16 : decode cX0_openSum 16 = .ok (.aload_n 0, 1) := by decide +kernel
theorem dX0_openSum_17 : decode cX0_openSum 17 = .ok (.lload_n 1, 1) := by decide +kernel
theorem dX0_openSum_18 : decode cX0_openSum 18 = .ok (.invokevirtual 65, 3) := by decide +kernel
theorem dX0_openSum_21 : decode cX0_openSum 21 = .ok (.ifCond .eq 7, 3) := by decide +kernel
theorem dX0_openSum_24 : decode cX0_openSum 24 = .ok (.iconst 1, 1) := by decide +kernel
theorem dX0_openSum_25 : decode cX0_openSum 25 = .ok (.goto 4, 3) := by decide +kernel
theorem dX0_openSum_28 : decode cX0_openSum 28 = .ok (.iconst 0, 1) := by decide +kernel
theorem dX0_openSum_29 : decode cX0_openSum 29 = .ok (.ireturn, 1) := by decide +kernel
theorem dX1_init_0 : decode cX1_init 0 = .ok (.aload_n 0, 1) := by decide +kernel
theorem dX1_init_1 : decode cX1_init 1 = .ok (.invokespecial 3, 3) := by decide +kernel
theorem dX1_init_4 : decode cX1_init 4 = .ok (.aload_n 0, 1) := by decide +kernel
theorem dX1_init_5 : decode cX1_init 5 = .ok (.iconst 1, 1) := by decide +kernel
theorem dX1_init_6 : decode cX1_init 6 = .ok (.putfield 9, 3) := by decide +kernel
theorem dX1_init_9 : decode cX1_init 9 = .ok (.aload_n 0, 1) := by decide +kernel
theorem dX1_init_10 : decode cX1_init 10 = .ok (.iconst 0, 1) := by decide +kernel
theorem dX1_init_11 : decode cX1_init 11 = .ok (.putfield 15, 3) := by decide +kernel
theorem dX1_init_14 : decode cX1_init 14 = .ok (.aload_n 0, 1) := by decide +kernel
theorem dX1_init_15 : decode cX1_init 15 = .ok (.iconst 0, 1) := by decide +kernel
theorem dX1_init_16 : decode cX1_init 16 = .ok (.putfield 18, 3) := by decide +kernel
theorem dX1_init_19 : decode cX1_init 19 = .ok (.aload_n 0, 1) := by decide +kernel
theorem dX1_init_20 : decode cX1_init 20 = .ok (.iconst 0, 1) := by decide +kernel
theorem dX1_init_21 : decode cX1_init 21 = .ok (.putfield 21, 3) := by decide +kernel
theorem dX1_init_24 : decode cX1_init 24 = .ok (.aload_n 0, 1) := by decide +kernel
theorem dX1_init_25 : decode cX1_init 25 = .ok (.bipush 8, 2) := by decide +kernel
theorem dX1_init_27 : decode cX1_init 27 = .ok (.newarray .int, 2) := by decide +kernel
theorem dX1_init_29 : decode cX1_init 29 = .ok (.putfield 24, 3) := by decide +kernel
theorem dX1_init_32 : decode cX1_init 32 = .ok (.aload_n 0, 1) := by decide +kernel
theorem dX1_init_33 : decode cX1_init 33 = .ok (.lconst 1, 1) := by decide +kernel
theorem dX1_init_34 : decode cX1_init 34 = .ok (.putfield 28, 3) := by decide +kernel
theorem dX1_init_37 : decode cX1_init 37 = .ok (.aload_n 0, 1) := by decide +kernel
theorem dX1_init_38 : decode cX1_init 38 = .ok (.lconst 1, 1) := by decide +kernel
theorem dX1_init_39 : decode cX1_init 39 = .ok (.putfield 32, 3) := by decide +kernel
theorem dX1_init_42 : decode cX1_init 42 = .ok (.return_, 1) := by decide +kernel
theorem dX1_begin_0 : decode cX1_begin 0 = .ok (.aload_n 0, 1) := by decide +kernel
theorem dX1_begin_1 : decode cX1_begin 1 = .ok (.iload_n 1, 1) := by decide +kernel
theorem dX1_begin_2 : decode cX1_begin 2 = .ok (.putfield 9, 3) := by decide +kernel
theorem dX1_begin_5 : decode cX1_begin 5 = .ok (.aload_n 0, 1) := by decide +kernel
theorem dX1_begin_6 : decode cX1_begin 6 = .ok (.iconst 0, 1) := by decide +kernel
theorem dX1_begin_7 : decode cX1_begin 7 = .ok (.putfield 15, 3) := by decide +kernel
theorem dX1_begin_10 : decode cX1_begin 10 = .ok (.aload_n 0, 1) := by decide +kernel
theorem dX1_begin_11 : decode cX1_begin 11 = .ok (.iconst 0, 1) := by decide +kernel
theorem dX1_begin_12 : decode cX1_begin 12 = .ok (.putfield 18, 3) := by decide +kernel
theorem dX1_begin_15 : decode cX1_begin 15 = .ok (.aload_n 0, 1) := by decide +kernel
theorem dX1_begin_16 : decode cX1_begin 16 = .ok (.invokevirtual 35, 3) := by decide +kernel
theorem dX1_begin_19 : decode cX1_begin 19 = .ok (.return_, 1) := by decide +kernel
theorem dX1_takeFrom_0 : decode cX1_takeFrom 0 = .ok (.aload_n 0, 1) := by decide +kernel
theorem dX1_takeFrom_1 : decode cX1_takeFrom 1 = .ok (.aload_n 1, 1) := by decide +kernel
theorem dX1_takeFrom_2 : decode cX1_takeFrom 2 = .ok (.getfield 9, 3) := by decide +kernel
theorem dX1_takeFrom_5 : decode cX1_takeFrom 5 = .ok (.putfield 9, 3) := by decide +kernel
theorem dX1_takeFrom_8 : decode cX1_takeFrom 8 = .ok (.aload_n 0, 1) := by decide +kernel
theorem dX1_takeFrom_9 : decode cX1_takeFrom 9 = .ok (.aload_n 1, 1) := by decide +kernel
theorem dX1_takeFrom_10 : decode cX1_takeFrom 10 = .ok (.getfield 15, 3) := by decide +kernel
theorem dX1_takeFrom_13 : decode cX1_takeFrom 13 = .ok (.putfield 15, 3) := by decide +kernel
theorem dX1_takeFrom_16 : decode cX1_takeFrom 16 = .ok (.aload_n 0, 1) := by decide +kernel
theorem dX1_takeFrom_17 : decode cX1_takeFrom 17 = .ok (.aload_n 1, 1) := by decide +kernel
theorem dX1_takeFrom_18 : decode cX1_takeFrom 18 = .ok (.getfield 18, 3) := by decide +kernel
theorem dX1_takeFrom_21 : decode cX1_takeFrom 21 = .ok (.putfield 18, 3) := by decide +kernel
theorem dX1_takeFrom_24 : decode cX1_takeFrom 24 = .ok (.aload_n 0, 1) := by decide +kernel
theorem dX1_takeFrom_25 : decode cX1_takeFrom 25 = .ok (.aload_n 1, 1) := by decide +kernel
theorem dX1_takeFrom_26 : decode cX1_takeFrom 26 = .ok (.getfield 21, 3) := by decide +kernel
theorem dX1_takeFrom_29 : decode cX1_takeFrom 29 = .ok (.putfield 21, 3) := by decide +kernel
theorem dX1_takeFrom_32 : decode cX1_takeFrom 32 = .ok (.aload_n 0, 1) := by decide +kernel
theorem dX1_takeFrom_33 : decode cX1_takeFrom 33 = .ok (.aload_n 1, 1) := by decide +kernel
theorem dX1_takeFrom_34 : decode cX1_takeFrom 34 = .ok (.getfield 28, 3) := by decide +kernel
theorem dX1_takeFrom_37 : decode cX1_takeFrom 37 = .ok (.putfield 28, 3) := by decide +kernel
theorem dX1_takeFrom_40 : decode cX1_takeFrom 40 = .ok (.aload_n 0, 1) := by decide +kernel
theorem dX1_takeFrom_41 : decode cX1_takeFrom 41 = .ok (.aload_n 1, 1) := by decide +kernel
theorem dX1_takeFrom_42 : decode cX1_takeFrom 42 = .ok (.getfield 32, 3) := by decide +kernel
theorem dX1_takeFrom_45 : decode cX1_takeFrom 45 = .ok (.putfield 32, 3) := by decide +kernel
theorem dX1_takeFrom_48 : decode cX1_takeFrom 48 = .ok (.aload_n 1, 1) := by decide +kernel
theorem dX1_takeFrom_49 : decode cX1_takeFrom 49 = .ok (.getfield 24, 3) := by decide +kernel
theorem dX1_takeFrom_52 : decode cX1_takeFrom 52 = .ok (.iconst 0, 1) := by decide +kernel
theorem dX1_takeFrom_53 : decode cX1_takeFrom 53 = .ok (.aload_n 0, 1) := by decide +kernel
theorem dX1_takeFrom_54 : decode cX1_takeFrom 54 = .ok (.getfield 24, 3) := by decide +kernel
theorem dX1_takeFrom_57 : decode cX1_takeFrom 57 = .ok (.iconst 0, 1) := by decide +kernel
theorem dX1_takeFrom_58 : decode cX1_takeFrom 58 = .ok (.bipush 8, 2) := by decide +kernel
theorem dX1_takeFrom_60 : decode cX1_takeFrom 60 = .ok (.invokestatic 38, 3) := by decide +kernel
theorem dX1_takeFrom_63 : decode cX1_takeFrom 63 = .ok (.return_, 1) := by decide +kernel
theorem dX1_clearTrain_0 : decode cX1_clearTrain 0 = .ok (.aload_n 0, 1) := by decide +kernel
theorem dX1_clearTrain_1 : decode cX1_clearTrain 1 = .ok (.iconst 0, 1) := by decide +kernel
theorem dX1_clearTrain_2 : decode cX1_clearTrain 2 = .ok (.putfield 21, 3) := by decide +kernel
theorem dX1_clearTrain_5 : decode cX1_clearTrain 5 = .ok (.aload_n 0, 1) := by decide +kernel
theorem dX1_clearTrain_6 : decode cX1_clearTrain 6 = .ok (.lconst 1, 1) := by decide +kernel
theorem dX1_clearTrain_7 : decode cX1_clearTrain 7 = .ok (.putfield 28, 3) := by decide +kernel
theorem dX1_clearTrain_10 : decode cX1_clearTrain 10 = .ok (.aload_n 0, 1) := by decide +kernel
theorem dX1_clearTrain_11 : decode cX1_clearTrain 11 = .ok (.lconst 1, 1) := by decide +kernel
theorem dX1_clearTrain_12 : decode cX1_clearTrain 12 = .ok (.putfield 32, 3) := by decide +kernel
theorem dX1_clearTrain_15 : decode cX1_clearTrain 15 = .ok (.return_, 1) := by decide +kernel
theorem dX1_addPair_0 : decode cX1_addPair 0 = .ok (.aload_n 0, 1) := by decide +kernel
theorem dX1_addPair_1 : decode cX1_addPair 1 = .ok (.getfield 21, 3) := by decide +kernel
theorem dX1_addPair_4 : decode cX1_addPair 4 = .ok (.ifCond .lt 11, 3) := by decide +kernel
theorem dX1_addPair_7 : decode cX1_addPair 7 = .ok (.aload_n 0, 1) := by decide +kernel
theorem dX1_addPair_8 : decode cX1_addPair 8 = .ok (.getfield 21, 3) := by decide +kernel
theorem dX1_addPair_11 : decode cX1_addPair 11 = .ok (.iconst 4, 1) := by decide +kernel
theorem dX1_addPair_12 : decode cX1_addPair 12 = .ok (.if_icmp .lt 5, 3) := by decide +kernel
theorem dX1_addPair_15 : decode cX1_addPair 15 = .ok (.iconst 0, 1) := by decide +kernel
theorem dX1_addPair_16 : decode cX1_addPair 16 = .ok (.ireturn, 1) := by decide +kernel
theorem dX1_addPair_17 : decode cX1_addPair 17 = .ok (.aload_n 0, 1) := by decide +kernel
theorem dX1_addPair_18 : decode cX1_addPair 18 = .ok (.getfield 24, 3) := by decide +kernel
theorem dX1_addPair_21 : decode cX1_addPair 21 = .ok (.iconst 2, 1) := by decide +kernel
theorem dX1_addPair_22 : decode cX1_addPair 22 = .ok (.aload_n 0, 1) := by decide +kernel
theorem dX1_addPair_23 : decode cX1_addPair 23 = .ok (.getfield 21, 3) := by decide +kernel
theorem dX1_addPair_26 : decode cX1_addPair 26 = .ok (.imul, 1) := by decide +kernel
theorem dX1_addPair_27 : decode cX1_addPair 27 = .ok (.iload_n 1, 1) := by decide +kernel
theorem dX1_addPair_28 : decode cX1_addPair 28 = .ok (.iastore, 1) := by decide +kernel
theorem dX1_addPair_29 : decode cX1_addPair 29 = .ok (.aload_n 0, 1) := by decide +kernel
theorem dX1_addPair_30 : decode cX1_addPair 30 = .ok (.getfield 24, 3) := by decide +kernel
theorem dX1_addPair_33 : decode cX1_addPair 33 = .ok (.iconst 2, 1) := by decide +kernel
theorem dX1_addPair_34 : decode cX1_addPair 34 = .ok (.aload_n 0, 1) := by decide +kernel
theorem dX1_addPair_35 : decode cX1_addPair 35 = .ok (.getfield 21, 3) := by decide +kernel
theorem dX1_addPair_38 : decode cX1_addPair 38 = .ok (.imul, 1) := by decide +kernel
theorem dX1_addPair_39 : decode cX1_addPair 39 = .ok (.iconst 1, 1) := by decide +kernel
theorem dX1_addPair_40 : decode cX1_addPair 40 = .ok (.iadd, 1) := by decide +kernel
theorem dX1_addPair_41 : decode cX1_addPair 41 = .ok (.iload_n 2, 1) := by decide +kernel
theorem dX1_addPair_42 : decode cX1_addPair 42 = .ok (.iastore, 1) := by decide +kernel
theorem dX1_addPair_43 : decode cX1_addPair 43 = .ok (.aload_n 0, 1) := by decide +kernel
theorem dX1_addPair_44 : decode cX1_addPair 44 = .ok (.dup, 1) := by decide +kernel
theorem dX1_addPair_45 : decode cX1_addPair 45 = .ok (.getfield 21, 3) := by decide +kernel
theorem dX1_addPair_48 : decode cX1_addPair 48 = .ok (.iconst 1, 1) := by decide +kernel
theorem dX1_addPair_49 : decode cX1_addPair 49 = .ok (.iadd, 1) := by decide +kernel
theorem dX1_addPair_50 : decode cX1_addPair 50 = .ok (.putfield 21, 3) := by decide +kernel
theorem dX1_addPair_53 : decode cX1_addPair 53 = .ok (.aload_n 0, 1) := by decide +kernel
theorem dX1_addPair_54 : decode cX1_addPair 54 = .ok (.getfield 28, 3) := by decide +kernel
theorem dX1_addPair_57 : decode cX1_addPair 57 = .ok (.iload_n 1, 1) := by decide +kernel
theorem dX1_addPair_58 : decode cX1_addPair 58 = .ok (.i2l, 1) := by decide +kernel
theorem dX1_addPair_59 : decode cX1_addPair 59 = .ok (.lmul, 1) := by decide +kernel
theorem dX1_addPair_60 : decode cX1_addPair 60 = .ok (.lstore_n 3, 1) := by decide +kernel
theorem dX1_addPair_61 : decode cX1_addPair 61 = .ok (.aload_n 0, 1) := by decide +kernel
theorem dX1_addPair_62 : decode cX1_addPair 62 = .ok (.getfield 32, 3) := by decide +kernel
theorem dX1_addPair_65 : decode cX1_addPair 65 = .ok (.iload_n 2, 1) := by decide +kernel
theorem dX1_addPair_66 : decode cX1_addPair 66 = .ok (.i2l, 1) := by decide +kernel
theorem dX1_addPair_67 : decode cX1_addPair 67 = .ok (.lmul, 1) := by decide +kernel
theorem dX1_addPair_68 : decode cX1_addPair 68 = .ok (.lstore 5, 2) := by decide +kernel
theorem dX1_addPair_70 : decode cX1_addPair 70 = .ok (.aload_n 0, 1) := by decide +kernel
theorem dX1_addPair_71 : decode cX1_addPair 71 = .ok (.lload_n 3, 1) := by decide +kernel
theorem dX1_addPair_72 : decode cX1_addPair 72 = .ok (.lload 5, 2) := by decide +kernel
theorem dX1_addPair_74 : decode cX1_addPair 74 = .ok (.iconst 0, 1) := by decide +kernel
theorem dX1_addPair_75 : decode cX1_addPair 75 = .ok (.invokestatic 44, 3) := by decide +kernel
theorem dX1_addPair_78 : decode cX1_addPair 78 = .ok (.putfield 28, 3) := by decide +kernel
theorem dX1_addPair_81 : decode cX1_addPair 81 = .ok (.aload_n 0, 1) := by decide +kernel
theorem dX1_addPair_82 : decode cX1_addPair 82 = .ok (.lload_n 3, 1) := by decide +kernel
theorem dX1_addPair_83 : decode cX1_addPair 83 = .ok (.lload 5, 2) := by decide +kernel
theorem dX1_addPair_85 : decode cX1_addPair 85 = .ok (.iconst 1, 1) := by decide +kernel
theorem dX1_addPair_86 : decode cX1_addPair 86 = .ok (.invokestatic 44, 3) := by decide +kernel
theorem dX1_addPair_89 : decode cX1_addPair 89 = .ok (.putfield 32, 3) := by decide +kernel
theorem dX1_addPair_92 : decode cX1_addPair 92 = .ok (.iconst 1, 1) := by decide +kernel
theorem dX1_addPair_93 : decode cX1_addPair 93 = .ok (.ireturn, 1) := by decide +kernel
theorem dX1_teethAt_0 : decode cX1_teethAt 0 = .ok (.iload_n 1, 1) := by decide +kernel
theorem dX1_teethAt_1 : decode cX1_teethAt 1 = .ok (.ifCond .lt 31, 3) := by decide +kernel
theorem dX1_teethAt_4 : decode cX1_teethAt 4 = .ok (.iload_n 1, 1) := by decide +kernel
theorem dX1_teethAt_5 : decode cX1_teethAt 5 = .ok (.iconst 2, 1) := by decide +kernel
theorem dX1_teethAt_6 : decode cX1_teethAt 6 = .ok (.aload_n 0, 1) := by decide +kernel
theorem dX1_teethAt_7 : decode cX1_teethAt 7 = .ok (.getfield 21, 3) := by decide +kernel
theorem dX1_teethAt_10 : decode cX1_teethAt 10 = .ok (.imul, 1) := by decide +kernel
theorem dX1_teethAt_11 : decode cX1_teethAt 11 = .ok (.if_icmp .ge 21, 3) := by decide +kernel
theorem dX1_teethAt_14 : decode cX1_teethAt 14 = .ok (.iload_n 1, 1) := by decide +kernel
theorem dX1_teethAt_15 : decode cX1_teethAt 15 = .ok (.aload_n 0, 1) := by decide +kernel
theorem dX1_teethAt_16 : decode cX1_teethAt 16 = .ok (.getfield 24, 3) := by decide +kernel
theorem dX1_teethAt_19 : decode cX1_teethAt 19 = .ok (.arraylength, 1) := by decide +kernel
theorem dX1_teethAt_20 : decode cX1_teethAt 20 = .ok (.if_icmp .ge 12, 3) := by decide +kernel
theorem dX1_teethAt_23 : decode cX1_teethAt 23 = .ok (.aload_n 0, 1) := by decide +kernel
theorem dX1_teethAt_24 : decode cX1_teethAt 24 = .ok (.getfield 24, 3) := by decide +kernel
theorem dX1_teethAt_27 : decode cX1_teethAt 27 = .ok (.iload_n 1, 1) := by decide +kernel
theorem dX1_teethAt_28 : decode cX1_teethAt 28 = .ok (.iaload, 1) := by decide +kernel
theorem dX1_teethAt_29 : decode cX1_teethAt 29 = .ok (.goto 4, 3) := by decide +kernel
theorem dX1_teethAt_32 : decode cX1_teethAt 32 = .ok (.iconst (-1), 1) := by decide +kernel
theorem dX1_teethAt_33 : decode cX1_teethAt 33 = .ok (.ireturn, 1) := by decide +kernel
theorem dX1_turnsOn_0 : decode cX1_turnsOn 0 = .ok (.iload_n 1, 1) := by decide +kernel
theorem dX1_turnsOn_1 : decode cX1_turnsOn 1 = .ok (.aload_n 0, 1) := by decide +kernel
theorem dX1_turnsOn_2 : decode cX1_turnsOn 2 = .ok (.getfield 18, 3) := by decide +kernel
theorem dX1_turnsOn_5 : decode cX1_turnsOn 5 = .ok (.invokestatic 48, 3) := by decide +kernel
theorem dX1_turnsOn_8 : decode cX1_turnsOn 8 = .ok (.aload_n 0, 1) := by decide +kernel
theorem dX1_turnsOn_9 : decode cX1_turnsOn 9 = .ok (.getfield 28, 3) := by decide +kernel
theorem dX1_turnsOn_12 : decode cX1_turnsOn 12 = .ok (.lmul, 1) := by decide +kernel
theorem dX1_turnsOn_13 : decode cX1_turnsOn 13 = .ok (.aload_n 0, 1) := by decide +kernel
theorem dX1_turnsOn_14 : decode cX1_turnsOn 14 = .ok (.getfield 32, 3) := by decide +kernel
theorem dX1_turnsOn_17 : decode cX1_turnsOn 17 = .ok (.invokestatic 52, 3) := by decide +kernel
theorem dX1_turnsOn_20 : decode cX1_turnsOn 20 = .ok (.ldc2_w 56, 3) := by decide +kernel
theorem dX1_turnsOn_23 : decode cX1_turnsOn 23 = .ok (.invokestatic 58, 3) := by decide +kernel
theorem dX1_turnsOn_26 : decode cX1_turnsOn 26 = .ok (.l2i, 1) := by decide +kernel
theorem dX1_turnsOn_27 : decode cX1_turnsOn 27 = .ok (.ireturn, 1) := by decide +kernel
theorem dX1_markOn_0 : decode cX1_markOn 0 = .ok (.aload_n 0, 1) := by decide +kernel
theorem dX1_markOn_1 : decode cX1_markOn 1 = .ok (.iload_n 1, 1) := by decide +kernel
theorem dX1_markOn_2 : decode cX1_markOn 2 = .ok (.aload_n 0, 1) := by decide +kernel
theorem dX1_markOn_3 : decode cX1_markOn 3 = .ok (.getfield 18, 3) := by decide +kernel
theorem dX1_markOn_6 : decode cX1_markOn 6 = .ok (.invokestatic 48, 3) := by decide +kernel
theorem dX1_markOn_9 : decode cX1_markOn 9 = .ok (.invokevirtual 61, 3) := by decide +kernel
theorem dX1_markOn_12 : decode cX1_markOn 12 = .ok (.ireturn, 1) := by decide +kernel
theorem dX1_markAfter_0 : decode cX1_markAfter 0 = .ok (.lload_n 1, 1) := by decide +kernel
theorem dX1_markAfter_1 : decode cX1_markAfter 1 = .ok (.aload_n 0, 1) := by decide +kernel
theorem dX1_markAfter_2 : decode cX1_markAfter 2 = .ok (.getfield 28, 3) := by decide +kernel
theorem dX1_markAfter_5 : decode cX1_markAfter 5 = .ok (.lmul, 1) := by decide +kernel
theorem dX1_markAfter_6 : decode cX1_markAfter 6 = .ok (.aload_n 0, 1) := by decide +kernel
theorem dX1_markAfter_7 : decode cX1_markAfter 7 = .ok (.getfield 9, 3) := by decide +kernel
theorem dX1_markAfter_10 : decode cX1_markAfter 10 = .ok (.i2l, 1) := by decide +kernel
theorem dX1_markAfter_11 : decode cX1_markAfter 11 = .ok (.lmul, 1) := by decide +kernel
theorem dX1_markAfter_12 : decode cX1_markAfter 12 = .ok (.aload_n 0, 1) := by decide +kernel
theorem dX1_markAfter_13 : decode cX1_markAfter 13 = .ok (.getfield 32, 3) := by decide +kernel
theorem dX1_markAfter_16 : decode cX1_markAfter 16 = .ok (.invokestatic 52, 3) := by decide +kernel
theorem dX1_markAfter_19 : decode cX1_markAfter 19 = .ok (.aload_n 0, 1) := by decide +kernel
theorem dX1_markAfter_20 : decode cX1_markAfter 20 = .ok (.getfield 15, 3) := by decide +kernel
theorem dX1_markAfter_23 : decode cX1_markAfter 23 = .ok (.i2l, 1) := by decide +kernel
theorem dX1_markAfter_24 : decode cX1_markAfter 24 = .ok (.ladd, 1) := by decide +kernel
theorem dX1_markAfter_25 : decode cX1_markAfter 25 = .ok (.aload_n 0, 1) := by decide +kernel
theorem dX1_markAfter_26 : decode cX1_markAfter 26 = .ok (.getfield 9, 3) := by decide +kernel
theorem dX1_markAfter_29 : decode cX1_markAfter 29 = .ok (.i2l, 1) := by decide +kernel
theorem dX1_markAfter_30 : decode cX1_markAfter 30 = .ok (.invokestatic 58, 3) := by decide +kernel
theorem dX1_markAfter_33 : decode cX1_markAfter 33 = .ok (.l2i, 1) := by decide +kernel
theorem dX1_markAfter_34 : decode cX1_markAfter 34 = .ok (.ireturn, 1) := by decide +kernel
theorem dX1_wornOn_0 : decode cX1_wornOn 0 = .ok (.aload_n 0, 1) := by decide +kernel
theorem dX1_wornOn_1 : decode cX1_wornOn 1 = .ok (.getfield 21, 3) := by decide +kernel
theorem dX1_wornOn_4 : decode cX1_wornOn 4 = .ok (.ifCond .ne 5, 3) := by decide +kernel
theorem dX1_wornOn_7 : decode cX1_wornOn 7 = .ok (.iconst (-1), 1) := by decide +kernel
theorem dX1_wornOn_8 : decode cX1_wornOn 8 = .ok (.ireturn, 1) := by decide +kernel
theorem dX1_wornOn_9 : decode cX1_wornOn 9 = .ok (.iload_n 1, 1) := by decide +kernel
theorem dX1_wornOn_10 : decode cX1_wornOn 10 = .ok (.i2l, 1) := by decide +kernel
theorem dX1_wornOn_11 : decode cX1_wornOn 11 = .ok (.lstore_n 2, 1) := by decide +kernel
theorem dX1_wornOn_12 : decode cX1_wornOn 12 = .ok (.lconst 1, 1) := by decide +kernel
theorem dX1_wornOn_13 : decode cX1_wornOn 13 = .ok (.lstore 4, 2) := by decide +kernel
theorem dX1_wornOn_15 : decode cX1_wornOn 15 = .ok (.lconst 1, 1) := by decide +kernel
theorem dX1_wornOn_16 : decode cX1_wornOn 16 = .ok (.lstore 6, 2) := by decide +kernel
theorem dX1_wornOn_18 : decode cX1_wornOn 18 = .ok (.iconst 0, 1) := by decide +kernel
theorem dX1_wornOn_19 : decode cX1_wornOn 19 = .ok (.istore 8, 2) := by decide +kernel
theorem dX1_wornOn_21 : decode cX1_wornOn 21 = .ok (.iload 8, 2) := by decide +kernel
theorem dX1_wornOn_23 : decode cX1_wornOn 23 = .ok (.aload_n 0, 1) := by decide +kernel
theorem dX1_wornOn_24 : decode cX1_wornOn 24 = .ok (.getfield 21, 3) := by decide +kernel
theorem dX1_wornOn_27 : decode cX1_wornOn 27 = .ok (.if_icmp .ge 54, 3) := by decide +kernel
theorem dX1_wornOn_30 : decode cX1_wornOn 30 = .ok (.lload 4, 2) := by decide +kernel
theorem dX1_wornOn_32 : decode cX1_wornOn 32 = .ok (.aload_n 0, 1) := by decide +kernel
theorem dX1_wornOn_33 : decode cX1_wornOn 33 = .ok (.iconst 2, 1) := by decide +kernel
theorem dX1_wornOn_34 : decode cX1_wornOn 34 = .ok (.iload 8, 2) := by decide +kernel
theorem dX1_wornOn_36 : decode cX1_wornOn 36 = .ok (.imul, 1) := by decide +kernel
theorem dX1_wornOn_37 : decode cX1_wornOn 37 = .ok (.invokevirtual 65, 3) := by decide +kernel
theorem dX1_wornOn_40 : decode cX1_wornOn 40 = .ok (.i2l, 1) := by decide +kernel
theorem dX1_wornOn_41 : decode cX1_wornOn 41 = .ok (.lmul, 1) := by decide +kernel
theorem dX1_wornOn_42 : decode cX1_wornOn 42 = .ok (.lstore 4, 2) := by decide +kernel
theorem dX1_wornOn_44 : decode cX1_wornOn 44 = .ok (.lload 6, 2) := by decide +kernel
theorem dX1_wornOn_46 : decode cX1_wornOn 46 = .ok (.aload_n 0, 1) := by decide +kernel
theorem dX1_wornOn_47 : decode cX1_wornOn 47 = .ok (.iconst 2, 1) := by decide +kernel
theorem dX1_wornOn_48 : decode cX1_wornOn 48 = .ok (.iload 8, 2) := by decide +kernel
theorem dX1_wornOn_50 : decode cX1_wornOn 50 = .ok (.imul, 1) := by decide +kernel
theorem dX1_wornOn_51 : decode cX1_wornOn 51 = .ok (.iconst 1, 1) := by decide +kernel
theorem dX1_wornOn_52 : decode cX1_wornOn 52 = .ok (.iadd, 1) := by decide +kernel
theorem dX1_wornOn_53 : decode cX1_wornOn 53 = .ok (.invokevirtual 65, 3) := by decide +kernel
theorem dX1_wornOn_56 : decode cX1_wornOn 56 = .ok (.i2l, 1) := by decide +kernel
theorem dX1_wornOn_57 : decode cX1_wornOn 57 = .ok (.lmul, 1) := by decide +kernel
theorem dX1_wornOn_58 : decode cX1_wornOn 58 = .ok (.lstore 6, 2) := by decide +kernel
theorem dX1_wornOn_60 : decode cX1_wornOn 60 = .ok (.lload_n 2, 1) := by decide +kernel
theorem dX1_wornOn_61 : decode cX1_wornOn 61 = .ok (.iload_n 1, 1) := by decide +kernel
theorem dX1_wornOn_62 : decode cX1_wornOn 62 = .ok (.i2l, 1) := by decide +kernel
theorem dX1_wornOn_63 : decode cX1_wornOn 63 = .ok (.lload 6, 2) := by decide +kernel
theorem dX1_wornOn_65 : decode cX1_wornOn 65 = .ok (.lmul, 1) := by decide +kernel
theorem dX1_wornOn_66 : decode cX1_wornOn 66 = .ok (.lload 4, 2) := by decide +kernel
theorem dX1_wornOn_68 : decode cX1_wornOn 68 = .ok (.invokestatic 69, 3) := by decide +kernel
theorem dX1_wornOn_71 : decode cX1_wornOn 71 = .ok (.invokestatic 72, 3) := by decide +kernel
theorem dX1_wornOn_74 : decode cX1_wornOn 74 = .ok (.lstore_n 2, 1) := by decide +kernel
theorem dX1_wornOn_75 : decode cX1_wornOn 75 = .ok (.iinc 8 1, 3) := by decide +kernel
theorem dX1_wornOn_78 : decode cX1_wornOn 78 = .ok (.goto (-57), 3) := by decide +kernel
theorem dX1_wornOn_81 : decode cX1_wornOn 81 = .ok (.lload_n 2, 1) := by decide +kernel
theorem dX1_wornOn_82 : decode cX1_wornOn 82 = .ok (.ldc2_w 56, 3) := by decide +kernel
theorem dX1_wornOn_85 : decode cX1_wornOn 85 = .ok (.lcmp, 1) := by decide +kernel
theorem dX1_wornOn_86 : decode cX1_wornOn 86 = .ok (.ifCond .le 7, 3) := by decide +kernel
theorem dX1_wornOn_89 : decode cX1_wornOn 89 = .ok (.iconst (-1), 1) := by decide +kernel
theorem dX1_wornOn_90 : decode cX1_wornOn 90 = .ok (.goto 5, 3) := by decide +kernel
theorem dX1_wornOn_93 : decode cX1_wornOn 93 = .ok (.lload_n 2, 1) := by decide +kernel
theorem dX1_wornOn_94 : decode cX1_wornOn 94 = .ok (.l2i, 1) := by decide +kernel
theorem dX1_wornOn_95 : decode cX1_wornOn 95 = .ok (.ireturn, 1) := by decide +kernel
theorem dX1_pairsAlike_0 : decode cX1_pairsAlike 0 = .ok (.iconst 0, 1) := by decide +kernel
theorem dX1_pairsAlike_1 : decode cX1_pairsAlike 1 = .ok (.istore_n 2, 1) := by decide +kernel
theorem dX1_pairsAlike_2 : decode cX1_pairsAlike 2 = .ok (.iconst 0, 1) := by decide +kernel
theorem dX1_pairsAlike_3 : decode cX1_pairsAlike 3 = .ok (.istore_n 3, 1) := by decide +kernel
theorem dX1_pairsAlike_4 : decode cX1_pairsAlike 4 = .ok (.iload_n 3, 1) := by decide +kernel
theorem dX1_pairsAlike_5 : decode cX1_pairsAlike 5 = .ok (.aload_n 0, 1) := by decide +kernel
theorem dX1_pairsAlike_6 : decode cX1_pairsAlike 6 = .ok (.getfield 21, 3) := by decide +kernel
theorem dX1_pairsAlike_9 : decode cX1_pairsAlike 9 = .ok (.aload_n 1, 1) := by decide +kernel
theorem dX1_pairsAlike_10 : decode cX1_pairsAlike 10 = .ok (.getfield 21, 3) := by decide +kernel
theorem dX1_pairsAlike_13 : decode cX1_pairsAlike 13 = .ok (.invokestatic 77, 3) := by decide +kernel
theorem dX1_pairsAlike_16 : decode cX1_pairsAlike 16 = .ok (.if_icmp .ge 52, 3) := by decide +kernel
theorem dX1_pairsAlike_19 : decode cX1_pairsAlike 19 = .ok (.aload_n 0, 1) := by decide +kernel
theorem dX1_pairsAlike_20 : decode cX1_pairsAlike 20 = .ok (.iconst 2, 1) := by decide +kernel
theorem dX1_pairsAlike_21 : decode cX1_pairsAlike 21 = .ok (.iload_n 3, 1) := by decide +kernel
theorem dX1_pairsAlike_22 : decode cX1_pairsAlike 22 = .ok (.imul, 1) := by decide +kernel
theorem dX1_pairsAlike_23 : decode cX1_pairsAlike 23 = .ok (.invokevirtual 65, 3) := by decide +kernel
theorem dX1_pairsAlike_26 : decode cX1_pairsAlike 26 = .ok (.aload_n 1, 1) := by decide +kernel
theorem dX1_pairsAlike_27 : decode cX1_pairsAlike 27 = .ok (.iconst 2, 1) := by decide +kernel
theorem dX1_pairsAlike_28 : decode cX1_pairsAlike 28 = .ok (.iload_n 3, 1) := by decide +kernel
theorem dX1_pairsAlike_29 : decode cX1_pairsAlike 29 = .ok (.imul, 1) := by decide +kernel
theorem dX1_pairsAlike_30 : decode cX1_pairsAlike 30 = .ok (.invokevirtual 65, 3) := by decide +kernel
theorem dX1_pairsAlike_33 : decode cX1_pairsAlike 33 = .ok (.if_icmp .ne 24, 3) := by decide +kernel
theorem dX1_pairsAlike_36 : decode cX1_pairsAlike 36 = .ok (.aload_n 0, 1) := by decide +kernel
theorem dX1_pairsAlike_37 : decode cX1_pairsAlike 37 = .ok (.iconst 2, 1) := by decide +kernel
theorem dX1_pairsAlike_38 : decode cX1_pairsAlike 38 = .ok (.iload_n 3, 1) := by decide +kernel
theorem dX1_pairsAlike_39 : decode cX1_pairsAlike 39 = .ok (.imul, 1) := by decide +kernel
theorem dX1_pairsAlike_40 : decode cX1_pairsAlike 40 = .ok (.iconst 1, 1) := by decide +kernel
theorem dX1_pairsAlike_41 : decode cX1_pairsAlike 41 = .ok (.iadd, 1) := by decide +kernel
theorem dX1_pairsAlike_42 : decode cX1_pairsAlike 42 = .ok (.invokevirtual 65, 3) := by decide +kernel
theorem dX1_pairsAlike_45 : decode cX1_pairsAlike 45 = .ok (.aload_n 1, 1) := by decide +kernel
theorem dX1_pairsAlike_46 : decode cX1_pairsAlike 46 = .ok (.iconst 2, 1) := by decide +kernel
theorem dX1_pairsAlike_47 : decode cX1_pairsAlike 47 = .ok (.iload_n 3, 1) := by decide +kernel
theorem dX1_pairsAlike_48 : decode cX1_pairsAlike 48 = .ok (.imul, 1) := by decide +kernel
theorem dX1_pairsAlike_49 : decode cX1_pairsAlike 49 = .ok (.iconst 1, 1) := by decide +kernel
theorem dX1_pairsAlike_50 : decode cX1_pairsAlike 50 = .ok (.iadd, 1) := by decide +kernel
theorem dX1_pairsAlike_51 : decode cX1_pairsAlike 51 = .ok (.invokevirtual 65, 3) := by decide +kernel
theorem dX1_pairsAlike_54 : decode cX1_pairsAlike 54 = .ok (.if_icmp .eq 5, 3) := by decide +kernel
theorem dX1_pairsAlike_57 : decode cX1_pairsAlike 57 = .ok (.iload_n 2, 1) := by decide +kernel
theorem dX1_pairsAlike_58 : decode cX1_pairsAlike 58 = .ok (.ireturn, 1) := by decide +kernel
theorem dX1_pairsAlike_59 : decode cX1_pairsAlike 59 = .ok (.iinc 2 1, 3) := by decide +kernel
theorem dX1_pairsAlike_62 : decode cX1_pairsAlike 62 = .ok (.iinc 3 1, 3) := by decide +kernel
theorem dX1_pairsAlike_65 : decode cX1_pairsAlike 65 = .ok (.goto (-61), 3) := by decide +kernel
theorem dX1_pairsAlike_68 : decode cX1_pairsAlike 68 = .ok (.iload_n 2, 1) := by decide +kernel
theorem dX1_pairsAlike_69 : decode cX1_pairsAlike 69 = .ok (.ireturn, 1) := by decide +kernel
theorem dX2_init_0 : decode cX2_init 0 = .ok (.aload_n 0, 1) := by decide +kernel
theorem dX2_init_1 : decode cX2_init 1 = .ok (.invokespecial 3, 3) := by decide +kernel
theorem dX2_init_4 : decode cX2_init 4 = .ok (.aload_n 0, 1) := by decide +kernel
theorem dX2_init_5 : decode cX2_init 5 = .ok (.aload_n 1, 1) := by decide +kernel
theorem dX2_init_6 : decode cX2_init 6 = .ok (.putfield 9, 3) := by decide +kernel
theorem dX2_init_9 : decode cX2_init 9 = .ok (.aload_n 0, 1) := by decide +kernel
theorem dX2_init_10 : decode cX2_init 10 = .ok (.aload_n 2, 1) := by decide +kernel
theorem dX2_init_11 : decode cX2_init 11 = .ok (.putfield 15, 3) := by decide +kernel
theorem dX2_init_14 : decode cX2_init 14 = .ok (.return_, 1) := by decide +kernel
theorem dX2_clauses_0 : decode cX2_clauses 0 = .ok (.aload_n 0, 1) := by decide +kernel
theorem dX2_clauses_1 : decode cX2_clauses 1 = .ok (.getfield 15, 3) := by decide +kernel
theorem dX2_clauses_4 : decode cX2_clauses 4 = .ok (.arraylength, 1) := by decide +kernel
theorem dX2_clauses_5 : decode cX2_clauses 5 = .ok (.iconst 1, 1) := by decide +kernel
theorem dX2_clauses_6 : decode cX2_clauses 6 = .ok (.isub, 1) := by decide +kernel
theorem dX2_clauses_7 : decode cX2_clauses 7 = .ok (.ireturn, 1) := by decide +kernel
theorem dX2_startOf_0 : decode cX2_startOf 0 = .ok (.iload_n 1, 1) := by decide +kernel
theorem dX2_startOf_1 : decode cX2_startOf 1 = .ok (.ifCond .lt 21, 3) := by decide +kernel
theorem dX2_startOf_4 : decode cX2_startOf 4 = .ok (.iload_n 1, 1) := by decide +kernel
theorem dX2_startOf_5 : decode cX2_startOf 5 = .ok (.aload_n 0, 1) := by decide +kernel
theorem dX2_startOf_6 : decode cX2_startOf 6 = .ok (.getfield 15, 3) := by decide +kernel
theorem dX2_startOf_9 : decode cX2_startOf 9 = .ok (.arraylength, 1) := by decide +kernel
theorem dX2_startOf_10 : decode cX2_startOf 10 = .ok (.if_icmp .ge 12, 3) := by decide +kernel
theorem dX2_startOf_13 : decode cX2_startOf 13 = .ok (.aload_n 0, 1) := by decide +kernel
theorem dX2_startOf_14 : decode cX2_startOf 14 = .ok (.getfield 15, 3) := by decide +kernel
theorem dX2_startOf_17 : decode cX2_startOf 17 = .ok (.iload_n 1, 1) := by decide +kernel
theorem dX2_startOf_18 : decode cX2_startOf 18 = .ok (.iaload, 1) := by decide +kernel
theorem dX2_startOf_19 : decode cX2_startOf 19 = .ok (.goto 8, 3) := by decide +kernel
theorem dX2_startOf_22 : decode cX2_startOf 22 = .ok (.aload_n 0, 1) := by decide +kernel
theorem dX2_startOf_23 : decode cX2_startOf 23 = .ok (.getfield 9, 3) := by decide +kernel
theorem dX2_startOf_26 : decode cX2_startOf 26 = .ok (.arraylength, 1) := by decide +kernel
theorem dX2_startOf_27 : decode cX2_startOf 27 = .ok (.ireturn, 1) := by decide +kernel
theorem dX2_stepAt_0 : decode cX2_stepAt 0 = .ok (.iload_n 1, 1) := by decide +kernel
theorem dX2_stepAt_1 : decode cX2_stepAt 1 = .ok (.ifCond .lt 21, 3) := by decide +kernel
theorem dX2_stepAt_4 : decode cX2_stepAt 4 = .ok (.iload_n 1, 1) := by decide +kernel
theorem dX2_stepAt_5 : decode cX2_stepAt 5 = .ok (.aload_n 0, 1) := by decide +kernel
theorem dX2_stepAt_6 : decode cX2_stepAt 6 = .ok (.getfield 9, 3) := by decide +kernel
theorem dX2_stepAt_9 : decode cX2_stepAt 9 = .ok (.arraylength, 1) := by decide +kernel
theorem dX2_stepAt_10 : decode cX2_stepAt 10 = .ok (.if_icmp .ge 12, 3) := by decide +kernel
theorem dX2_stepAt_13 : decode cX2_stepAt 13 = .ok (.aload_n 0, 1) := by decide +kernel
theorem dX2_stepAt_14 : decode cX2_stepAt 14 = .ok (.getfield 9, 3) := by decide +kernel
theorem dX2_stepAt_17 : decode cX2_stepAt 17 = .ok (.iload_n 1, 1) := by decide +kernel
theorem dX2_stepAt_18 : decode cX2_stepAt 18 = .ok (.iaload, 1) := by decide +kernel
theorem dX2_stepAt_19 : decode cX2_stepAt 19 = .ok (.goto 4, 3) := by decide +kernel
theorem dX2_stepAt_22 : decode cX2_stepAt 22 = .ok (.iconst (-1), 1) := by decide +kernel
theorem dX2_stepAt_23 : decode cX2_stepAt 23 = .ok (.ireturn, 1) := by decide +kernel
theorem dX3_init_0 : decode cX3_init 0 = .ok (.aload_n 0, 1) := by decide +kernel
theorem dX3_init_1 : decode cX3_init 1 = .ok (.invokespecial 1, 3) := by decide +kernel
theorem dX3_init_4 : decode cX3_init 4 = .ok (.aload_n 0, 1) := by decide +kernel
theorem dX3_init_5 : decode cX3_init 5 = .ok (.lconst 1, 1) := by decide +kernel
theorem dX3_init_6 : decode cX3_init 6 = .ok (.putfield 7, 3) := by decide +kernel
theorem dX3_init_9 : decode cX3_init 9 = .ok (.aload_n 0, 1) := by decide +kernel
theorem dX3_init_10 : decode cX3_init 10 = .ok (.lconst 1, 1) := by decide +kernel
theorem dX3_init_11 : decode cX3_init 11 = .ok (.putfield 13, 3) := by decide +kernel
theorem dX3_init_14 : decode cX3_init 14 = .ok (.aload_n 0, 1) := by decide +kernel
theorem dX3_init_15 : decode cX3_init 15 = .ok (.lconst 0, 1) := by decide +kernel
theorem dX3_init_16 : decode cX3_init 16 = .ok (.putfield 16, 3) := by decide +kernel
theorem dX3_init_19 : decode cX3_init 19 = .ok (.aload_n 0, 1) := by decide +kernel
theorem dX3_init_20 : decode cX3_init 20 = .ok (.lconst 1, 1) := by decide +kernel
theorem dX3_init_21 : decode cX3_init 21 = .ok (.putfield 19, 3) := by decide +kernel
theorem dX3_init_24 : decode cX3_init 24 = .ok (.return_, 1) := by decide +kernel
theorem dX3_findFor_0 : decode cX3_findFor 0 = .ok (.aload_n 0, 1) := by decide +kernel
theorem dX3_findFor_1 : decode cX3_findFor 1 = .ok (.iload_n 2, 1) := by decide +kernel
theorem dX3_findFor_2 : decode cX3_findFor 2 = .ok (.i2l, 1) := by decide +kernel
theorem dX3_findFor_3 : decode cX3_findFor 3 = .ok (.putfield 7, 3) := by decide +kernel
theorem dX3_findFor_6 : decode cX3_findFor 6 = .ok (.aload_n 0, 1) := by decide +kernel
theorem dX3_findFor_7 : decode cX3_findFor 7 = .ok (.iload_n 3, 1) := by decide +kernel
theorem dX3_findFor_8 : decode cX3_findFor 8 = .ok (.i2l, 1) := by decide +kernel
theorem dX3_findFor_9 : decode cX3_findFor 9 = .ok (.putfield 13, 3) := by decide +kernel
theorem dX3_findFor_12 : decode cX3_findFor 12 = .ok (.aload_n 0, 1) := by decide +kernel
theorem dX3_findFor_13 : decode cX3_findFor 13 = .ok (.aload_n 1, 1) := by decide +kernel
theorem dX3_findFor_14 : decode cX3_findFor 14 = .ok (.invokevirtual 22, 3) := by decide +kernel
theorem dX3_findFor_17 : decode cX3_findFor 17 = .ok (.aload_n 0, 1) := by decide +kernel
theorem dX3_findFor_18 : decode cX3_findFor 18 = .ok (.getfield 26, 3) := by decide +kernel
theorem dX3_findFor_21 : decode cX3_findFor 21 = .ok (.ifCond .le 7, 3) := by decide +kernel
theorem dX3_findFor_24 : decode cX3_findFor 24 = .ok (.iconst 1, 1) := by decide +kernel
theorem dX3_findFor_25 : decode cX3_findFor 25 = .ok (.goto 4, 3) := by decide +kernel
theorem dX3_findFor_28 : decode cX3_findFor 28 = .ok (.iconst 0, 1) := by decide +kernel
theorem dX3_findFor_29 : decode cX3_findFor 29 = .ok (.ireturn, 1) := by decide +kernel
theorem dX3_weigh_0 : decode cX3_weigh 0 = .ok (.lload_n 1, 1) := by decide +kernel
theorem dX3_weigh_1 : decode cX3_weigh 1 = .ok (.aload_n 0, 1) := by decide +kernel
theorem dX3_weigh_2 : decode cX3_weigh 2 = .ok (.getfield 13, 3) := by decide +kernel
theorem dX3_weigh_5 : decode cX3_weigh 5 = .ok (.lmul, 1) := by decide +kernel
theorem dX3_weigh_6 : decode cX3_weigh 6 = .ok (.lload_n 3, 1) := by decide +kernel
theorem dX3_weigh_7 : decode cX3_weigh 7 = .ok (.aload_n 0, 1) := by decide +kernel
theorem dX3_weigh_8 : decode cX3_weigh 8 = .ok (.getfield 7, 3) := by decide +kernel
theorem dX3_weigh_11 : decode cX3_weigh 11 = .ok (.lmul, 1) := by decide +kernel
theorem dX3_weigh_12 : decode cX3_weigh 12 = .ok (.lsub, 1) := by decide +kernel
theorem dX3_weigh_13 : decode cX3_weigh 13 = .ok (.invokestatic 30, 3) := by decide +kernel
theorem dX3_weigh_16 : decode cX3_weigh 16 = .ok (.lstore 7, 2) := by decide +kernel
theorem dX3_weigh_18 : decode cX3_weigh 18 = .ok (.aload_n 0, 1) := by decide +kernel
theorem dX3_weigh_19 : decode cX3_weigh 19 = .ok (.getfield 26, 3) := by decide +kernel
theorem dX3_weigh_22 : decode cX3_weigh 22 = .ok (.ifCond .eq 20, 3) := by decide +kernel
theorem dX3_weigh_25 : decode cX3_weigh 25 = .ok (.lload 7, 2) := by decide +kernel
theorem dX3_weigh_27 : decode cX3_weigh 27 = .ok (.aload_n 0, 1) := by decide +kernel
theorem dX3_weigh_28 : decode cX3_weigh 28 = .ok (.getfield 19, 3) := by decide +kernel
theorem dX3_weigh_31 : decode cX3_weigh 31 = .ok (.lmul, 1) := by decide +kernel
theorem dX3_weigh_32 : decode cX3_weigh 32 = .ok (.aload_n 0, 1) := by decide +kernel
theorem dX3_weigh_33 : decode cX3_weigh 33 = .ok (.getfield 16, 3) := by decide +kernel
theorem dX3_weigh_36 : decode cX3_weigh 36 = .ok (.lload_n 3, 1) := by decide +kernel
theorem dX3_weigh_37 : decode cX3_weigh 37 = .ok (.lmul, 1) := by decide +kernel
theorem dX3_weigh_38 : decode cX3_weigh 38 = .ok (.lcmp, 1) := by decide +kernel
theorem dX3_weigh_39 : decode cX3_weigh 39 = .ok (.ifCond .ge 20, 3) := by decide +kernel
theorem dX3_weigh_42 : decode cX3_weigh 42 = .ok (.aload_n 0, 1) := by decide +kernel
theorem dX3_weigh_43 : decode cX3_weigh 43 = .ok (.lload 7, 2) := by decide +kernel
theorem dX3_weigh_45 : decode cX3_weigh 45 = .ok (.putfield 16, 3) := by decide +kernel
theorem dX3_weigh_48 : decode cX3_weigh 48 = .ok (.aload_n 0, 1) := by decide +kernel
theorem dX3_weigh_49 : decode cX3_weigh 49 = .ok (.lload_n 3, 1) := by decide +kernel
theorem dX3_weigh_50 : decode cX3_weigh 50 = .ok (.putfield 19, 3) := by decide +kernel
theorem dX3_weigh_53 : decode cX3_weigh 53 = .ok (.aload_n 0, 1) := by decide +kernel
theorem dX3_weigh_54 : decode cX3_weigh 54 = .ok (.iload 5, 2) := by decide +kernel
theorem dX3_weigh_56 : decode cX3_weigh 56 = .ok (.invokevirtual 36, 3) := by decide +kernel
theorem dX3_weigh_59 : decode cX3_weigh 59 = .ok (.return_, 1) := by decide +kernel
theorem dX4_init_0 : decode cX4_init 0 = .ok (.aload_n 0, 1) := by decide +kernel
theorem dX4_init_1 : decode cX4_init 1 = .ok (.invokespecial 3, 3) := by decide +kernel
theorem dX4_init_4 : decode cX4_init 4 = .ok (.aload_n 0, 1) := by decide +kernel
theorem dX4_init_5 : decode cX4_init 5 = .ok (.new 9, 3) := by decide +kernel
theorem dX4_init_8 : decode cX4_init 8 = .ok (.dup, 1) := by decide +kernel
theorem dX4_init_9 : decode cX4_init 9 = .ok (.invokespecial 11, 3) := by decide +kernel
theorem dX4_init_12 : decode cX4_init 12 = .ok (.putfield 12, 3) := by decide +kernel
theorem dX4_init_15 : decode cX4_init 15 = .ok (.aload_n 0, 1) := by decide +kernel
theorem dX4_init_16 : decode cX4_init 16 = .ok (.iconst 0, 1) := by decide +kernel
theorem dX4_init_17 : decode cX4_init 17 = .ok (.putfield 18, 3) := by decide +kernel
theorem dX4_init_20 : decode cX4_init 20 = .ok (.aload_n 0, 1) := by decide +kernel
theorem dX4_init_21 : decode cX4_init 21 = .ok (.iconst (-1), 1) := by decide +kernel
theorem dX4_init_22 : decode cX4_init 22 = .ok (.putfield 22, 3) := by decide +kernel
theorem dX4_init_25 : decode cX4_init 25 = .ok (.aload_n 0, 1) := by decide +kernel
theorem dX4_init_26 : decode cX4_init 26 = .ok (.iconst 0, 1) := by decide +kernel
theorem dX4_init_27 : decode cX4_init 27 = .ok (.putfield 25, 3) := by decide +kernel
theorem dX4_init_30 : decode cX4_init 30 = .ok (.aload_n 0, 1) := by decide +kernel
theorem dX4_init_31 : decode cX4_init 31 = .ok (.iconst 0, 1) := by decide +kernel
theorem dX4_init_32 : decode cX4_init 32 = .ok (.putfield 28, 3) := by decide +kernel
theorem dX4_init_35 : decode cX4_init 35 = .ok (.aload_n 0, 1) := by decide +kernel
theorem dX4_init_36 : decode cX4_init 36 = .ok (.iconst 0, 1) := by decide +kernel
theorem dX4_init_37 : decode cX4_init 37 = .ok (.putfield 31, 3) := by decide +kernel
theorem dX4_init_40 : decode cX4_init 40 = .ok (.aload_n 0, 1) := by decide +kernel
theorem dX4_init_41 : decode cX4_init 41 = .ok (.iconst 0, 1) := by decide +kernel
theorem dX4_init_42 : decode cX4_init 42 = .ok (.putfield 34, 3) := by decide +kernel
theorem dX4_init_45 : decode cX4_init 45 = .ok (.aload_n 0, 1) := by decide +kernel
theorem dX4_init_46 : decode cX4_init 46 = .ok (.iconst 0, 1) := by decide +kernel
theorem dX4_init_47 : decode cX4_init 47 = .ok (.putfield 37, 3) := by decide +kernel
theorem dX4_init_50 : decode cX4_init 50 = .ok (.aload_n 0, 1) := by decide +kernel
theorem dX4_init_51 : decode cX4_init 51 = .ok (.sipush 400, 3) := by decide +kernel
theorem dX4_init_54 : decode cX4_init 54 = .ok (.newarray .int, 2) := by decide +kernel
theorem dX4_init_56 : decode cX4_init 56 = .ok (.putfield 40, 3) := by decide +kernel
theorem dX4_init_59 : decode cX4_init 59 = .ok (.aload_n 0, 1) := by decide +kernel
theorem dX4_init_60 : decode cX4_init 60 = .ok (.bipush 13, 2) := by decide +kernel
theorem dX4_init_62 : decode cX4_init 62 = .ok (.newarray .int, 2) := by decide +kernel
theorem dX4_init_64 : decode cX4_init 64 = .ok (.putfield 44, 3) := by decide +kernel
theorem dX4_init_67 : decode cX4_init 67 = .ok (.aload_n 0, 1) := by decide +kernel
theorem dX4_init_68 : decode cX4_init 68 = .ok (.iconst (-1), 1) := by decide +kernel
theorem dX4_init_69 : decode cX4_init 69 = .ok (.putfield 47, 3) := by decide +kernel
theorem dX4_init_72 : decode cX4_init 72 = .ok (.return_, 1) := by decide +kernel
theorem dX4_lawOf_0 : decode cX4_lawOf 0 = .ok (.aload_n 0, 1) := by decide +kernel
theorem dX4_lawOf_1 : decode cX4_lawOf 1 = .ok (.getfield 12, 3) := by decide +kernel
theorem dX4_lawOf_4 : decode cX4_lawOf 4 = .ok (.aload_n 1, 1) := by decide +kernel
theorem dX4_lawOf_5 : decode cX4_lawOf 5 = .ok (.iload_n 2, 1) := by decide +kernel
theorem dX4_lawOf_6 : decode cX4_lawOf 6 = .ok (.invokevirtual 50, 3) := by decide +kernel
theorem dX4_lawOf_9 : decode cX4_lawOf 9 = .ok (.aload_n 0, 1) := by decide +kernel
theorem dX4_lawOf_10 : decode cX4_lawOf 10 = .ok (.iconst (-1), 1) := by decide +kernel
theorem dX4_lawOf_11 : decode cX4_lawOf 11 = .ok (.putfield 18, 3) := by decide +kernel
theorem dX4_lawOf_14 : decode cX4_lawOf 14 = .ok (.aload_n 0, 1) := by decide +kernel
theorem dX4_lawOf_15 : decode cX4_lawOf 15 = .ok (.invokevirtual 54, 3) := by decide +kernel
theorem dX4_lawOf_18 : decode cX4_lawOf 18 = .ok (.aload_n 0, 1) := by decide +kernel
theorem dX4_lawOf_19 : decode cX4_lawOf 19 = .ok (.iconst 0, 1) := by decide +kernel
theorem dX4_lawOf_20 : decode cX4_lawOf 20 = .ok (.putfield 31, 3) := by decide +kernel
theorem dX4_lawOf_23 : decode cX4_lawOf 23 = .ok (.aload_n 0, 1) := by decide +kernel
theorem dX4_lawOf_24 : decode cX4_lawOf 24 = .ok (.iconst 0, 1) := by decide +kernel
theorem dX4_lawOf_25 : decode cX4_lawOf 25 = .ok (.putfield 34, 3) := by decide +kernel
theorem dX4_lawOf_28 : decode cX4_lawOf 28 = .ok (.aload_n 0, 1) := by decide +kernel
theorem dX4_lawOf_29 : decode cX4_lawOf 29 = .ok (.iconst 0, 1) := by decide +kernel
theorem dX4_lawOf_30 : decode cX4_lawOf 30 = .ok (.putfield 37, 3) := by decide +kernel
theorem dX4_lawOf_33 : decode cX4_lawOf 33 = .ok (.aload_n 0, 1) := by decide +kernel
theorem dX4_lawOf_34 : decode cX4_lawOf 34 = .ok (.invokevirtual 57, 3) := by decide +kernel
theorem dX4_lawOf_37 : decode cX4_lawOf 37 = .ok (.ifCond .ne 13, 3) := by decide +kernel
theorem dX4_lawOf_40 : decode cX4_lawOf 40 = .ok (.aload_n 0, 1) := by decide +kernel
theorem dX4_lawOf_41 : decode cX4_lawOf 41 = .ok (.aload_n 0, 1) := by decide +kernel
theorem dX4_lawOf_42 : decode cX4_lawOf 42 = .ok (.getfield 28, 3) := by decide +kernel
theorem dX4_lawOf_45 : decode cX4_lawOf 45 = .ok (.putfield 47, 3) := by decide +kernel
theorem dX4_lawOf_48 : decode cX4_lawOf 48 = .ok (.aconst_null, 1) := by decide +kernel
theorem dX4_lawOf_49 : decode cX4_lawOf 49 = .ok (.areturn, 1) := by decide +kernel
theorem dX4_lawOf_50 : decode cX4_lawOf 50 = .ok (.aload_n 0, 1) := by decide +kernel
theorem dX4_lawOf_51 : decode cX4_lawOf 51 = .ok (.iconst (-1), 1) := by decide +kernel
theorem dX4_lawOf_52 : decode cX4_lawOf 52 = .ok (.putfield 47, 3) := by decide +kernel
theorem dX4_lawOf_55 : decode cX4_lawOf 55 = .ok (.aload_n 0, 1) := by decide +kernel
theorem dX4_lawOf_56 : decode cX4_lawOf 56 = .ok (.getfield 37, 3) := by decide +kernel
theorem dX4_lawOf_59 : decode cX4_lawOf 59 = .ok (.iconst 0, 1) := by decide +kernel
theorem dX4_lawOf_60 : decode cX4_lawOf 60 = .ok (.invokestatic 61, 3) := by decide +kernel
theorem dX4_lawOf_63 : decode cX4_lawOf 63 = .ok (.newarray .int, 2) := by decide +kernel
theorem dX4_lawOf_65 : decode cX4_lawOf 65 = .ok (.astore_n 3, 1) := by decide +kernel
theorem dX4_lawOf_66 : decode cX4_lawOf 66 = .ok (.aload_n 0, 1) := by decide +kernel
theorem dX4_lawOf_67 : decode cX4_lawOf 67 = .ok (.getfield 40, 3) := by decide +kernel
theorem dX4_lawOf_70 : decode cX4_lawOf 70 = .ok (.iconst 0, 1) := by decide +kernel
theorem dX4_lawOf_71 : decode cX4_lawOf 71 = .ok (.aload_n 3, 1) := by decide +kernel
theorem dX4_lawOf_72 : decode cX4_lawOf 72 = .ok (.iconst 0, 1) := by decide +kernel
theorem dX4_lawOf_73 : decode cX4_lawOf 73 = .ok (.aload_n 3, 1) := by decide +kernel
theorem dX4_lawOf_74 : decode cX4_lawOf 74 = .ok (.arraylength, 1) := by decide +kernel
theorem dX4_lawOf_75 : decode cX4_lawOf 75 = .ok (.aload_n 0, 1) := by decide +kernel
theorem dX4_lawOf_76 : decode cX4_lawOf 76 = .ok (.getfield 40, 3) := by decide +kernel
theorem dX4_lawOf_79 : decode cX4_lawOf 79 = .ok (.arraylength, 1) := by decide +kernel
theorem dX4_lawOf_80 : decode cX4_lawOf 80 = .ok (.invokestatic 67, 3) := by decide +kernel
theorem dX4_lawOf_83 : decode cX4_lawOf 83 = .ok (.invokestatic 70, 3) := by decide +kernel
theorem dX4_lawOf_86 : decode cX4_lawOf 86 = .ok (.aload_n 0, 1) := by decide +kernel
theorem dX4_lawOf_87 : decode cX4_lawOf 87 = .ok (.getfield 34, 3) := by decide +kernel
theorem dX4_lawOf_90 : decode cX4_lawOf 90 = .ok (.iconst 0, 1) := by decide +kernel
theorem dX4_lawOf_91 : decode cX4_lawOf 91 = .ok (.invokestatic 61, 3) := by decide +kernel
theorem dX4_lawOf_94 : decode cX4_lawOf 94 = .ok (.iconst 1, 1) := by decide +kernel
theorem dX4_lawOf_95 : decode cX4_lawOf 95 = .ok (.iadd, 1) := by decide +kernel
theorem dX4_lawOf_96 : decode cX4_lawOf 96 = .ok (.newarray .int, 2) := by decide +kernel
theorem dX4_lawOf_98 : decode cX4_lawOf 98 = .ok (.astore 4, 2) := by decide +kernel
theorem dX4_lawOf_100 : decode cX4_lawOf 100 = .ok (.aload_n 0, 1) := by decide +kernel
theorem dX4_lawOf_101 : decode cX4_lawOf 101 = .ok (.getfield 44, 3) := by decide +kernel
theorem dX4_lawOf_104 : decode cX4_lawOf 104 = .ok (.iconst 0, 1) := by decide +kernel
theorem dX4_lawOf_105 : decode cX4_lawOf 105 = .ok (.aload 4, 2) := by decide +kernel
theorem dX4_lawOf_107 : decode cX4_lawOf 107 = .ok (.iconst 0, 1) := by decide +kernel
theorem dX4_lawOf_108 : decode cX4_lawOf 108 = .ok (.aload 4, 2) := by decide +kernel
theorem dX4_lawOf_110 : decode cX4_lawOf 110 = .ok (.arraylength, 1) := by decide +kernel
theorem dX4_lawOf_111 : decode cX4_lawOf 111 = .ok (.aload_n 0, 1) := by decide +kernel
theorem dX4_lawOf_112 : decode cX4_lawOf 112 = .ok (.getfield 44, 3) := by decide +kernel
theorem dX4_lawOf_115 : decode cX4_lawOf 115 = .ok (.arraylength, 1) := by decide +kernel
theorem dX4_lawOf_116 : decode cX4_lawOf 116 = .ok (.invokestatic 67, 3) := by decide +kernel
theorem dX4_lawOf_119 : decode cX4_lawOf 119 = .ok (.invokestatic 70, 3) := by decide +kernel
theorem dX4_lawOf_122 : decode cX4_lawOf 122 = .ok (.new 76, 3) := by decide +kernel
theorem dX4_lawOf_125 : decode cX4_lawOf 125 = .ok (.dup, 1) := by decide +kernel
theorem dX4_lawOf_126 : decode cX4_lawOf 126 = .ok (.aload_n 3, 1) := by decide +kernel
theorem dX4_lawOf_127 : decode cX4_lawOf 127 = .ok (.aload 4, 2) := by decide +kernel
theorem dX4_lawOf_129 : decode cX4_lawOf 129 = .ok (.invokespecial 78, 3) := by decide +kernel
theorem dX4_lawOf_132 : decode cX4_lawOf 132 = .ok (.areturn, 1) := by decide +kernel
theorem dX4_readClauses_0 : decode cX4_readClauses 0 = .ok (.iconst 0, 1) := by decide +kernel
theorem dX4_readClauses_1 : decode cX4_readClauses 1 = .ok (.istore_n 1, 1) := by decide +kernel
theorem dX4_readClauses_2 : decode cX4_readClauses 2 = .ok (.iload_n 1, 1) := by decide +kernel
theorem dX4_readClauses_3 : decode cX4_readClauses 3 = .ok (.bipush 12, 2) := by decide +kernel
theorem dX4_readClauses_5 : decode cX4_readClauses 5 = .ok (.if_icmp .ge 61, 3) := by decide +kernel
theorem dX4_readClauses_8 : decode cX4_readClauses 8 = .ok (.aload_n 0, 1) := by decide +kernel
theorem dX4_readClauses_9 : decode cX4_readClauses 9 = .ok (.invokevirtual 81, 3) := by decide +kernel
theorem dX4_readClauses_12 : decode cX4_readClauses 12 = .ok (.aload_n 0, 1) := by decide +kernel
theorem dX4_readClauses_13 : decode cX4_readClauses 13 = .ok (.dup, 1) := by decide +kernel
theorem dX4_readClauses_14 : decode cX4_readClauses 14 = .ok (.getfield 34, 3) := by decide +kernel
theorem dX4_readClauses_17 : decode cX4_readClauses 17 = .ok (.iconst 1, 1) := by decide +kernel
theorem dX4_readClauses_18 : decode cX4_readClauses 18 = .ok (.iadd, 1) := by decide +kernel
theorem dX4_readClauses_19 : decode cX4_readClauses 19 = .ok (.putfield 34, 3) := by decide +kernel
theorem dX4_readClauses_22 : decode cX4_readClauses 22 = .ok (.aload_n 0, 1) := by decide +kernel
theorem dX4_readClauses_23 : decode cX4_readClauses 23 = .ok (.invokevirtual 84, 3) := by decide +kernel
theorem dX4_readClauses_26 : decode cX4_readClauses 26 = .ok (.ifCond .ne 5, 3) := by decide +kernel
theorem dX4_readClauses_29 : decode cX4_readClauses 29 = .ok (.iconst 0, 1) := by decide +kernel
theorem dX4_readClauses_30 : decode cX4_readClauses 30 = .ok (.ireturn, 1) := by decide +kernel
theorem dX4_readClauses_31 : decode cX4_readClauses 31 = .ok (.aload_n 0, 1) := by decide +kernel
theorem dX4_readClauses_32 : decode cX4_readClauses 32 = .ok (.getfield 22, 3) := by decide +kernel
theorem dX4_readClauses_35 : decode cX4_readClauses 35 = .ok (.iconst (-1), 1) := by decide +kernel
theorem dX4_readClauses_36 : decode cX4_readClauses 36 = .ok (.if_icmp .ne 9, 3) := by decide +kernel
theorem dX4_readClauses_39 : decode cX4_readClauses 39 = .ok (.aload_n 0, 1) := by decide +kernel
theorem dX4_readClauses_40 : decode cX4_readClauses 40 = .ok (.invokevirtual 81, 3) := by decide +kernel
theorem dX4_readClauses_43 : decode cX4_readClauses 43 = .ok (.iconst 1, 1) := by decide +kernel
theorem dX4_readClauses_44 : decode cX4_readClauses 44 = .ok (.ireturn, 1) := by decide +kernel
theorem dX4_readClauses_45 : decode cX4_readClauses 45 = .ok (.aload_n 0, 1) := by decide +kernel
theorem dX4_readClauses_46 : decode cX4_readClauses 46 = .ok (.getfield 22, 3) := by decide +kernel
theorem dX4_readClauses_49 : decode cX4_readClauses 49 = .ok (.bipush 59, 2) := by decide +kernel
theorem dX4_readClauses_51 : decode cX4_readClauses 51 = .ok (.if_icmp .eq 5, 3) := by decide +kernel
theorem dX4_readClauses_54 : decode cX4_readClauses 54 = .ok (.iconst 0, 1) := by decide +kernel
theorem dX4_readClauses_55 : decode cX4_readClauses 55 = .ok (.ireturn, 1) := by decide +kernel
theorem dX4_readClauses_56 : decode cX4_readClauses 56 = .ok (.aload_n 0, 1) := by decide +kernel
theorem dX4_readClauses_57 : decode cX4_readClauses 57 = .ok (.invokevirtual 54, 3) := by decide +kernel
theorem dX4_readClauses_60 : decode cX4_readClauses 60 = .ok (.iinc 1 1, 3) := by decide +kernel
theorem dX4_readClauses_63 : decode cX4_readClauses 63 = .ok (.goto (-61), 3) := by decide +kernel
theorem dX4_readClauses_66 : decode cX4_readClauses 66 = .ok (.iconst 0, 1) := by decide +kernel
theorem dX4_readClauses_67 : decode cX4_readClauses 67 = .ok (.ireturn, 1) := by decide +kernel
theorem dX4_markClause_0 : decode cX4_markClause 0 = .ok (.aload_n 0, 1) := by decide +kernel
theorem dX4_markClause_1 : decode cX4_markClause 1 = .ok (.getfield 34, 3) := by decide +kernel
theorem dX4_markClause_4 : decode cX4_markClause 4 = .ok (.ifCond .lt 28, 3) := by decide +kernel
theorem dX4_markClause_7 : decode cX4_markClause 7 = .ok (.aload_n 0, 1) := by decide +kernel
theorem dX4_markClause_8 : decode cX4_markClause 8 = .ok (.getfield 34, 3) := by decide +kernel
theorem dX4_markClause_11 : decode cX4_markClause 11 = .ok (.aload_n 0, 1) := by decide +kernel
theorem dX4_markClause_12 : decode cX4_markClause 12 = .ok (.getfield 44, 3) := by decide +kernel
theorem dX4_markClause_15 : decode cX4_markClause 15 = .ok (.arraylength, 1) := by decide +kernel
theorem dX4_markClause_16 : decode cX4_markClause 16 = .ok (.if_icmp .ge 16, 3) := by decide +kernel
theorem dX4_markClause_19 : decode cX4_markClause 19 = .ok (.aload_n 0, 1) := by decide +kernel
theorem dX4_markClause_20 : decode cX4_markClause 20 = .ok (.getfield 44, 3) := by decide +kernel
theorem dX4_markClause_23 : decode cX4_markClause 23 = .ok (.aload_n 0, 1) := by decide +kernel
theorem dX4_markClause_24 : decode cX4_markClause 24 = .ok (.getfield 34, 3) := by decide +kernel
theorem dX4_markClause_27 : decode cX4_markClause 27 = .ok (.aload_n 0, 1) := by decide +kernel
theorem dX4_markClause_28 : decode cX4_markClause 28 = .ok (.getfield 37, 3) := by decide +kernel
theorem dX4_markClause_31 : decode cX4_markClause 31 = .ok (.iastore, 1) := by decide +kernel
theorem dX4_markClause_32 : decode cX4_markClause 32 = .ok (.return_, 1) := by decide +kernel
theorem dX4_readClause_0 : decode cX4_readClause 0 = .ok (.aload_n 0, 1) := by decide +kernel
theorem dX4_readClause_1 : decode cX4_readClause 1 = .ok (.getfield 22, 3) := by decide +kernel
theorem dX4_readClause_4 : decode cX4_readClause 4 = .ok (.sipush 257, 3) := by decide +kernel
theorem dX4_readClause_7 : decode cX4_readClause 7 = .ok (.if_icmp .eq 5, 3) := by decide +kernel
theorem dX4_readClause_10 : decode cX4_readClause 10 = .ok (.iconst 0, 1) := by decide +kernel
theorem dX4_readClause_11 : decode cX4_readClause 11 = .ok (.ireturn, 1) := by decide +kernel
theorem dX4_readClause_12 : decode cX4_readClause 12 = .ok (.aload_n 0, 1) := by decide +kernel
theorem dX4_readClause_13 : decode cX4_readClause 13 = .ok (.invokevirtual 54, 3) := by decide +kernel
theorem dX4_readClause_16 : decode cX4_readClause 16 = .ok (.aload_n 0, 1) := by decide +kernel
theorem dX4_readClause_17 : decode cX4_readClause 17 = .ok (.iconst 0, 1) := by decide +kernel
theorem dX4_readClause_18 : decode cX4_readClause 18 = .ok (.invokevirtual 87, 3) := by decide +kernel
theorem dX4_readClause_21 : decode cX4_readClause 21 = .ok (.ifCond .ne 5, 3) := by decide +kernel
theorem dX4_readClause_24 : decode cX4_readClause 24 = .ok (.iconst 0, 1) := by decide +kernel
theorem dX4_readClause_25 : decode cX4_readClause 25 = .ok (.ireturn, 1) := by decide +kernel
theorem dX4_readClause_26 : decode cX4_readClause 26 = .ok (.aload_n 0, 1) := by decide +kernel
theorem dX4_readClause_27 : decode cX4_readClause 27 = .ok (.getfield 22, 3) := by decide +kernel
theorem dX4_readClause_30 : decode cX4_readClause 30 = .ok (.sipush 258, 3) := by decide +kernel
theorem dX4_readClause_33 : decode cX4_readClause 33 = .ok (.if_icmp .eq 5, 3) := by decide +kernel
theorem dX4_readClause_36 : decode cX4_readClause 36 = .ok (.iconst 1, 1) := by decide +kernel
theorem dX4_readClause_37 : decode cX4_readClause 37 = .ok (.ireturn, 1) := by decide +kernel
theorem dX4_readClause_38 : decode cX4_readClause 38 = .ok (.aload_n 0, 1) := by decide +kernel
theorem dX4_readClause_39 : decode cX4_readClause 39 = .ok (.invokevirtual 54, 3) := by decide +kernel
theorem dX4_readClause_42 : decode cX4_readClause 42 = .ok (.aload_n 0, 1) := by decide +kernel
theorem dX4_readClause_43 : decode cX4_readClause 43 = .ok (.iconst 0, 1) := by decide +kernel
theorem dX4_readClause_44 : decode cX4_readClause 44 = .ok (.invokevirtual 91, 3) := by decide +kernel
theorem dX4_readClause_47 : decode cX4_readClause 47 = .ok (.ireturn, 1) := by decide +kernel
theorem dX4_readTest_0 : decode cX4_readTest 0 = .ok (.aload_n 0, 1) := by decide +kernel
theorem dX4_readTest_1 : decode cX4_readTest 1 = .ok (.iload_n 1, 1) := by decide +kernel
theorem dX4_readTest_2 : decode cX4_readTest 2 = .ok (.invokevirtual 94, 3) := by decide +kernel
theorem dX4_readTest_5 : decode cX4_readTest 5 = .ok (.ifCond .ne 5, 3) := by decide +kernel
theorem dX4_readTest_8 : decode cX4_readTest 8 = .ok (.iconst 0, 1) := by decide +kernel
theorem dX4_readTest_9 : decode cX4_readTest 9 = .ok (.ireturn, 1) := by decide +kernel
theorem dX4_readTest_10 : decode cX4_readTest 10 = .ok (.iconst 0, 1) := by decide +kernel
theorem dX4_readTest_11 : decode cX4_readTest 11 = .ok (.istore_n 2, 1) := by decide +kernel
theorem dX4_readTest_12 : decode cX4_readTest 12 = .ok (.iload_n 2, 1) := by decide +kernel
theorem dX4_readTest_13 : decode cX4_readTest 13 = .ok (.sipush 400, 3) := by decide +kernel
theorem dX4_readTest_16 : decode cX4_readTest 16 = .ok (.if_icmp .ge 52, 3) := by decide +kernel
theorem dX4_readTest_19 : decode cX4_readTest 19 = .ok (.aload_n 0, 1) := by decide +kernel
theorem dX4_readTest_20 : decode cX4_readTest 20 = .ok (.getfield 22, 3) := by decide +kernel
theorem dX4_readTest_23 : decode cX4_readTest 23 = .ok (.sipush 259, 3) := by decide +kernel
theorem dX4_readTest_26 : decode cX4_readTest 26 = .ok (.if_icmp .ne 42, 3) := by decide +kernel
theorem dX4_readTest_29 : decode cX4_readTest 29 = .ok (.aload_n 0, 1) := by decide +kernel
theorem dX4_readTest_30 : decode cX4_readTest 30 = .ok (.getfield 37, 3) := by decide +kernel
theorem dX4_readTest_33 : decode cX4_readTest 33 = .ok (.istore_n 3, 1) := by decide +kernel
theorem dX4_readTest_34 : decode cX4_readTest 34 = .ok (.aload_n 0, 1) := by decide +kernel
theorem dX4_readTest_35 : decode cX4_readTest 35 = .ok (.bipush 16, 2) := by decide +kernel
theorem dX4_readTest_37 : decode cX4_readTest 37 = .ok (.iconst 0, 1) := by decide +kernel
theorem dX4_readTest_38 : decode cX4_readTest 38 = .ok (.invokevirtual 97, 3) := by decide +kernel
theorem dX4_readTest_41 : decode cX4_readTest 41 = .ok (.aload_n 0, 1) := by decide +kernel
theorem dX4_readTest_42 : decode cX4_readTest 42 = .ok (.invokevirtual 54, 3) := by decide +kernel
theorem dX4_readTest_45 : decode cX4_readTest 45 = .ok (.aload_n 0, 1) := by decide +kernel
theorem dX4_readTest_46 : decode cX4_readTest 46 = .ok (.iload_n 1, 1) := by decide +kernel
theorem dX4_readTest_47 : decode cX4_readTest 47 = .ok (.invokevirtual 94, 3) := by decide +kernel
theorem dX4_readTest_50 : decode cX4_readTest 50 = .ok (.ifCond .ne 5, 3) := by decide +kernel
theorem dX4_readTest_53 : decode cX4_readTest 53 = .ok (.iconst 0, 1) := by decide +kernel
theorem dX4_readTest_54 : decode cX4_readTest 54 = .ok (.ireturn, 1) := by decide +kernel
theorem dX4_readTest_55 : decode cX4_readTest 55 = .ok (.aload_n 0, 1) := by decide +kernel
theorem dX4_readTest_56 : decode cX4_readTest 56 = .ok (.iload_n 3, 1) := by decide +kernel
theorem dX4_readTest_57 : decode cX4_readTest 57 = .ok (.bipush 16, 2) := by decide +kernel
theorem dX4_readTest_59 : decode cX4_readTest 59 = .ok (.invokevirtual 101, 3) := by decide +kernel
theorem dX4_readTest_62 : decode cX4_readTest 62 = .ok (.iinc 2 1, 3) := by decide +kernel
theorem dX4_readTest_65 : decode cX4_readTest 65 = .ok (.goto (-53), 3) := by decide +kernel
theorem dX4_readTest_68 : decode cX4_readTest 68 = .ok (.iconst 1, 1) := by decide +kernel
theorem dX4_readTest_69 : decode cX4_readTest 69 = .ok (.ireturn, 1) := by decide +kernel
theorem dX4_readBoth_0 : decode cX4_readBoth 0 = .ok (.aload_n 0, 1) := by decide +kernel
theorem dX4_readBoth_1 : decode cX4_readBoth 1 = .ok (.iload_n 1, 1) := by decide +kernel
theorem dX4_readBoth_2 : decode cX4_readBoth 2 = .ok (.invokevirtual 104, 3) := by decide +kernel
theorem dX4_readBoth_5 : decode cX4_readBoth 5 = .ok (.ifCond .ne 5, 3) := by decide +kernel
theorem dX4_readBoth_8 : decode cX4_readBoth 8 = .ok (.iconst 0, 1) := by decide +kernel
theorem dX4_readBoth_9 : decode cX4_readBoth 9 = .ok (.ireturn, 1) := by decide +kernel
theorem dX4_readBoth_10 : decode cX4_readBoth 10 = .ok (.iconst 0, 1) := by decide +kernel
theorem dX4_readBoth_11 : decode cX4_readBoth 11 = .ok (.istore_n 2, 1) := by decide +kernel
theorem dX4_readBoth_12 : decode cX4_readBoth 12 = .ok (.iload_n 2, 1) := by decide +kernel
theorem dX4_readBoth_13 : decode cX4_readBoth 13 = .ok (.sipush 400, 3) := by decide +kernel
theorem dX4_readBoth_16 : decode cX4_readBoth 16 = .ok (.if_icmp .ge 52, 3) := by decide +kernel
theorem dX4_readBoth_19 : decode cX4_readBoth 19 = .ok (.aload_n 0, 1) := by decide +kernel
theorem dX4_readBoth_20 : decode cX4_readBoth 20 = .ok (.getfield 22, 3) := by decide +kernel
theorem dX4_readBoth_23 : decode cX4_readBoth 23 = .ok (.sipush 260, 3) := by decide +kernel
theorem dX4_readBoth_26 : decode cX4_readBoth 26 = .ok (.if_icmp .ne 42, 3) := by decide +kernel
theorem dX4_readBoth_29 : decode cX4_readBoth 29 = .ok (.aload_n 0, 1) := by decide +kernel
theorem dX4_readBoth_30 : decode cX4_readBoth 30 = .ok (.getfield 37, 3) := by decide +kernel
theorem dX4_readBoth_33 : decode cX4_readBoth 33 = .ok (.istore_n 3, 1) := by decide +kernel
theorem dX4_readBoth_34 : decode cX4_readBoth 34 = .ok (.aload_n 0, 1) := by decide +kernel
theorem dX4_readBoth_35 : decode cX4_readBoth 35 = .ok (.bipush 15, 2) := by decide +kernel
theorem dX4_readBoth_37 : decode cX4_readBoth 37 = .ok (.iconst 0, 1) := by decide +kernel
theorem dX4_readBoth_38 : decode cX4_readBoth 38 = .ok (.invokevirtual 97, 3) := by decide +kernel
theorem dX4_readBoth_41 : decode cX4_readBoth 41 = .ok (.aload_n 0, 1) := by decide +kernel
theorem dX4_readBoth_42 : decode cX4_readBoth 42 = .ok (.invokevirtual 54, 3) := by decide +kernel
theorem dX4_readBoth_45 : decode cX4_readBoth 45 = .ok (.aload_n 0, 1) := by decide +kernel
theorem dX4_readBoth_46 : decode cX4_readBoth 46 = .ok (.iload_n 1, 1) := by decide +kernel
theorem dX4_readBoth_47 : decode cX4_readBoth 47 = .ok (.invokevirtual 104, 3) := by decide +kernel
theorem dX4_readBoth_50 : decode cX4_readBoth 50 = .ok (.ifCond .ne 5, 3) := by decide +kernel
theorem dX4_readBoth_53 : decode cX4_readBoth 53 = .ok (.iconst 0, 1) := by decide +kernel
theorem dX4_readBoth_54 : decode cX4_readBoth 54 = .ok (.ireturn, 1) := by decide +kernel
theorem dX4_readBoth_55 : decode cX4_readBoth 55 = .ok (.aload_n 0, 1) := by decide +kernel
theorem dX4_readBoth_56 : decode cX4_readBoth 56 = .ok (.iload_n 3, 1) := by decide +kernel
theorem dX4_readBoth_57 : decode cX4_readBoth 57 = .ok (.bipush 15, 2) := by decide +kernel
theorem dX4_readBoth_59 : decode cX4_readBoth 59 = .ok (.invokevirtual 101, 3) := by decide +kernel
theorem dX4_readBoth_62 : decode cX4_readBoth 62 = .ok (.iinc 2 1, 3) := by decide +kernel
theorem dX4_readBoth_65 : decode cX4_readBoth 65 = .ok (.goto (-53), 3) := by decide +kernel
theorem dX4_readBoth_68 : decode cX4_readBoth 68 = .ok (.iconst 1, 1) := by decide +kernel
theorem dX4_readBoth_69 : decode cX4_readBoth 69 = .ok (.ireturn, 1) := by decide +kernel
theorem dX4_readPlain_0 : decode cX4_readPlain 0 = .ok (.iconst 0, 1) := by decide +kernel
theorem dX4_readPlain_1 : decode cX4_readPlain 1 = .ok (.istore_n 2, 1) := by decide +kernel
theorem dX4_readPlain_2 : decode cX4_readPlain 2 = .ok (.iconst 0, 1) := by decide +kernel
theorem dX4_readPlain_3 : decode cX4_readPlain 3 = .ok (.istore_n 3, 1) := by decide +kernel
theorem dX4_readPlain_4 : decode cX4_readPlain 4 = .ok (.iload_n 3, 1) := by decide +kernel
theorem dX4_readPlain_5 : decode cX4_readPlain 5 = .ok (.sipush 400, 3) := by decide +kernel
theorem dX4_readPlain_8 : decode cX4_readPlain 8 = .ok (.if_icmp .ge 26, 3) := by decide +kernel
theorem dX4_readPlain_11 : decode cX4_readPlain 11 = .ok (.aload_n 0, 1) := by decide +kernel
theorem dX4_readPlain_12 : decode cX4_readPlain 12 = .ok (.getfield 22, 3) := by decide +kernel
theorem dX4_readPlain_15 : decode cX4_readPlain 15 = .ok (.sipush 261, 3) := by decide +kernel
theorem dX4_readPlain_18 : decode cX4_readPlain 18 = .ok (.if_icmp .ne 16, 3) := by decide +kernel
theorem dX4_readPlain_21 : decode cX4_readPlain 21 = .ok (.iinc 2 1, 3) := by decide +kernel
theorem dX4_readPlain_24 : decode cX4_readPlain 24 = .ok (.aload_n 0, 1) := by decide +kernel
theorem dX4_readPlain_25 : decode cX4_readPlain 25 = .ok (.invokevirtual 54, 3) := by decide +kernel
theorem dX4_readPlain_28 : decode cX4_readPlain 28 = .ok (.iinc 3 1, 3) := by decide +kernel
theorem dX4_readPlain_31 : decode cX4_readPlain 31 = .ok (.goto (-27), 3) := by decide +kernel
theorem dX4_readPlain_34 : decode cX4_readPlain 34 = .ok (.aload_n 0, 1) := by decide +kernel
theorem dX4_readPlain_35 : decode cX4_readPlain 35 = .ok (.getfield 22, 3) := by decide +kernel
theorem dX4_readPlain_38 : decode cX4_readPlain 38 = .ok (.bipush 40, 2) := by decide +kernel
theorem dX4_readPlain_40 : decode cX4_readPlain 40 = .ok (.if_icmp .ne 11, 3) := by decide +kernel
theorem dX4_readPlain_43 : decode cX4_readPlain 43 = .ok (.aload_n 0, 1) := by decide +kernel
theorem dX4_readPlain_44 : decode cX4_readPlain 44 = .ok (.iload_n 1, 1) := by decide +kernel
theorem dX4_readPlain_45 : decode cX4_readPlain 45 = .ok (.invokevirtual 107, 3) := by decide +kernel
theorem dX4_readPlain_48 : decode cX4_readPlain 48 = .ok (.goto 8, 3) := by decide +kernel
theorem dX4_readPlain_51 : decode cX4_readPlain 51 = .ok (.aload_n 0, 1) := by decide +kernel
theorem dX4_readPlain_52 : decode cX4_readPlain 52 = .ok (.iload_n 1, 1) := by decide +kernel
theorem dX4_readPlain_53 : decode cX4_readPlain 53 = .ok (.invokevirtual 110, 3) := by decide +kernel
theorem dX4_readPlain_56 : decode cX4_readPlain 56 = .ok (.istore_n 3, 1) := by decide +kernel
theorem dX4_readPlain_57 : decode cX4_readPlain 57 = .ok (.iload_n 3, 1) := by decide +kernel
theorem dX4_readPlain_58 : decode cX4_readPlain 58 = .ok (.ifCond .eq 17, 3) := by decide +kernel
theorem dX4_readPlain_61 : decode cX4_readPlain 61 = .ok (.iload_n 2, 1) := by decide +kernel
theorem dX4_readPlain_62 : decode cX4_readPlain 62 = .ok (.iconst 1, 1) := by decide +kernel
theorem dX4_readPlain_63 : decode cX4_readPlain 63 = .ok (.iand, 1) := by decide +kernel
theorem dX4_readPlain_64 : decode cX4_readPlain 64 = .ok (.iconst 1, 1) := by decide +kernel
theorem dX4_readPlain_65 : decode cX4_readPlain 65 = .ok (.if_icmp .ne 10, 3) := by decide +kernel
theorem dX4_readPlain_68 : decode cX4_readPlain 68 = .ok (.aload_n 0, 1) := by decide +kernel
theorem dX4_readPlain_69 : decode cX4_readPlain 69 = .ok (.bipush 14, 2) := by decide +kernel
theorem dX4_readPlain_71 : decode cX4_readPlain 71 = .ok (.iconst 0, 1) := by decide +kernel
theorem dX4_readPlain_72 : decode cX4_readPlain 72 = .ok (.invokevirtual 97, 3) := by decide +kernel
theorem dX4_readPlain_75 : decode cX4_readPlain 75 = .ok (.iload_n 3, 1) := by decide +kernel
theorem dX4_readPlain_76 : decode cX4_readPlain 76 = .ok (.ireturn, 1) := by decide +kernel
theorem dX4_readRoundBracket_0 : decode cX4_readRoundBracket 0 = .ok (.iload_n 1, 1) := by decide +kernel
theorem dX4_readRoundBracket_1 : decode cX4_readRoundBracket 1 = .ok (.bipush 8, 2) := by decide +kernel
theorem dX4_readRoundBracket_3 : decode cX4_readRoundBracket 3 = .ok (.if_icmp .lt 5, 3) := by decide +kernel
theorem dX4_readRoundBracket_6 : decode cX4_readRoundBracket 6 = .ok (.iconst 0, 1) := by decide +kernel
theorem dX4_readRoundBracket_7 : decode cX4_readRoundBracket 7 = .ok (.ireturn, 1) := by decide +kernel
theorem dX4_readRoundBracket_8 : decode cX4_readRoundBracket 8 = .ok (.aload_n 0, 1) := by decide +kernel
theorem dX4_readRoundBracket_9 : decode cX4_readRoundBracket 9 = .ok (.invokevirtual 54, 3) := by decide +kernel
theorem dX4_readRoundBracket_12 : decode cX4_readRoundBracket 12 = .ok (.aload_n 0, 1) := by decide +kernel
theorem dX4_readRoundBracket_13 : decode cX4_readRoundBracket 13 = .ok (.iload_n 1, 1) := by decide +kernel
theorem dX4_readRoundBracket_14 : decode cX4_readRoundBracket 14 = .ok (.iconst 1, 1) := by decide +kernel
theorem dX4_readRoundBracket_15 : decode cX4_readRoundBracket 15 = .ok (.iadd, 1) := by decide +kernel
theorem dX4_readRoundBracket_16 : decode cX4_readRoundBracket 16 = .ok (.invokevirtual 91, 3) := by decide +kernel
theorem dX4_readRoundBracket_19 : decode cX4_readRoundBracket 19 = .ok (.ifCond .eq 12, 3) := by decide +kernel
theorem dX4_readRoundBracket_22 : decode cX4_readRoundBracket 22 = .ok (.aload_n 0, 1) := by decide +kernel
theorem dX4_readRoundBracket_23 : decode cX4_readRoundBracket 23 = .ok (.getfield 22, 3) := by decide +kernel
theorem dX4_readRoundBracket_26 : decode cX4_readRoundBracket 26 = .ok (.bipush 41, 2) := by decide +kernel
theorem dX4_readRoundBracket_28 : decode cX4_readRoundBracket 28 = .ok (.if_icmp .eq 5, 3) := by decide +kernel
theorem dX4_readRoundBracket_31 : decode cX4_readRoundBracket 31 = .ok (.iconst 0, 1) := by decide +kernel
theorem dX4_readRoundBracket_32 : decode cX4_readRoundBracket 32 = .ok (.ireturn, 1) := by decide +kernel
theorem dX4_readRoundBracket_33 : decode cX4_readRoundBracket 33 = .ok (.aload_n 0, 1) := by decide +kernel
theorem dX4_readRoundBracket_34 : decode cX4_readRoundBracket 34 = .ok (.invokevirtual 54, 3) := by decide +kernel
theorem dX4_readRoundBracket_37 : decode cX4_readRoundBracket 37 = .ok (.iconst 1, 1) := by decide +kernel
theorem dX4_readRoundBracket_38 : decode cX4_readRoundBracket 38 = .ok (.ireturn, 1) := by decide +kernel
theorem dX4_readComparison_0 : decode cX4_readComparison 0 = .ok (.aload_n 0, 1) := by decide +kernel
theorem dX4_readComparison_1 : decode cX4_readComparison 1 = .ok (.iload_n 1, 1) := by decide +kernel
theorem dX4_readComparison_2 : decode cX4_readComparison 2 = .ok (.invokevirtual 87, 3) := by decide +kernel
theorem dX4_readComparison_5 : decode cX4_readComparison 5 = .ok (.ifCond .ne 5, 3) := by decide +kernel
theorem dX4_readComparison_8 : decode cX4_readComparison 8 = .ok (.iconst 0, 1) := by decide +kernel
theorem dX4_readComparison_9 : decode cX4_readComparison 9 = .ok (.ireturn, 1) := by decide +kernel
theorem dX4_readComparison_10 : decode cX4_readComparison 10 = .ok (.aload_n 0, 1) := by decide +kernel
theorem dX4_readComparison_11 : decode cX4_readComparison 11 = .ok (.getfield 22, 3) := by decide +kernel
theorem dX4_readComparison_14 : decode cX4_readComparison 14 = .ok (.invokestatic 113, 3) := by decide +kernel
theorem dX4_readComparison_17 : decode cX4_readComparison 17 = .ok (.istore_n 2, 1) := by decide +kernel
theorem dX4_readComparison_18 : decode cX4_readComparison 18 = .ok (.iload_n 2, 1) := by decide +kernel
theorem dX4_readComparison_19 : decode cX4_readComparison 19 = .ok (.iconst (-1), 1) := by decide +kernel
theorem dX4_readComparison_20 : decode cX4_readComparison 20 = .ok (.if_icmp .ne 5, 3) := by decide +kernel
theorem dX4_readComparison_23 : decode cX4_readComparison 23 = .ok (.iconst 0, 1) := by decide +kernel
theorem dX4_readComparison_24 : decode cX4_readComparison 24 = .ok (.ireturn, 1) := by decide +kernel
theorem dX4_readComparison_25 : decode cX4_readComparison 25 = .ok (.aload_n 0, 1) := by decide +kernel
theorem dX4_readComparison_26 : decode cX4_readComparison 26 = .ok (.invokevirtual 54, 3) := by decide +kernel
theorem dX4_readComparison_29 : decode cX4_readComparison 29 = .ok (.aload_n 0, 1) := by decide +kernel
theorem dX4_readComparison_30 : decode cX4_readComparison 30 = .ok (.iload_n 1, 1) := by decide +kernel
theorem dX4_readComparison_31 : decode cX4_readComparison 31 = .ok (.invokevirtual 87, 3) := by decide +kernel
theorem dX4_readComparison_34 : decode cX4_readComparison 34 = .ok (.ifCond .ne 5, 3) := by decide +kernel
theorem dX4_readComparison_37 : decode cX4_readComparison 37 = .ok (.iconst 0, 1) := by decide +kernel
theorem dX4_readComparison_38 : decode cX4_readComparison 38 = .ok (.ireturn, 1) := by decide +kernel
theorem dX4_readComparison_39 : decode cX4_readComparison 39 = .ok (.aload_n 0, 1) := by decide +kernel
theorem dX4_readComparison_40 : decode cX4_readComparison 40 = .ok (.iload_n 2, 1) := by decide +kernel
theorem dX4_readComparison_41 : decode cX4_readComparison 41 = .ok (.iconst 0, 1) := by decide +kernel
theorem dX4_readComparison_42 : decode cX4_readComparison 42 = .ok (.invokevirtual 97, 3) := by decide +kernel
theorem dX4_readComparison_45 : decode cX4_readComparison 45 = .ok (.iconst 1, 1) := by decide +kernel
theorem dX4_readComparison_46 : decode cX4_readComparison 46 = .ok (.ireturn, 1) := by decide +kernel
theorem dX4_readSum_0 : decode cX4_readSum 0 = .ok (.aload_n 0, 1) := by decide +kernel
theorem dX4_readSum_1 : decode cX4_readSum 1 = .ok (.iload_n 1, 1) := by decide +kernel
theorem dX4_readSum_2 : decode cX4_readSum 2 = .ok (.invokevirtual 117, 3) := by decide +kernel
theorem dX4_readSum_5 : decode cX4_readSum 5 = .ok (.ifCond .ne 5, 3) := by decide +kernel
theorem dX4_readSum_8 : decode cX4_readSum 8 = .ok (.iconst 0, 1) := by decide +kernel
theorem dX4_readSum_9 : decode cX4_readSum 9 = .ok (.ireturn, 1) := by decide +kernel
theorem dX4_readSum_10 : decode cX4_readSum 10 = .ok (.iconst 0, 1) := by decide +kernel
theorem dX4_readSum_11 : decode cX4_readSum 11 = .ok (.istore_n 2, 1) := by decide +kernel
theorem dX4_readSum_12 : decode cX4_readSum 12 = .ok (.iload_n 2, 1) := by decide +kernel
theorem dX4_readSum_13 : decode cX4_readSum 13 = .ok (.sipush 400, 3) := by decide +kernel
theorem dX4_readSum_16 : decode cX4_readSum 16 = .ok (.if_icmp .ge 64, 3) := by decide +kernel
theorem dX4_readSum_19 : decode cX4_readSum 19 = .ok (.aload_n 0, 1) := by decide +kernel
theorem dX4_readSum_20 : decode cX4_readSum 20 = .ok (.getfield 22, 3) := by decide +kernel
theorem dX4_readSum_23 : decode cX4_readSum 23 = .ok (.bipush 43, 2) := by decide +kernel
theorem dX4_readSum_25 : decode cX4_readSum 25 = .ok (.if_icmp .eq 12, 3) := by decide +kernel
theorem dX4_readSum_28 : decode cX4_readSum 28 = .ok (.aload_n 0, 1) := by decide +kernel
theorem dX4_readSum_29 : decode cX4_readSum 29 = .ok (.getfield 22, 3) := by decide +kernel
theorem dX4_readSum_32 : decode cX4_readSum 32 = .ok (.bipush 45, 2) := by decide +kernel
theorem dX4_readSum_34 : decode cX4_readSum 34 = .ok (.if_icmp .ne 46, 3) := by decide +kernel
theorem dX4_readSum_37 : decode cX4_readSum 37 = .ok (.aload_n 0, 1) := by decide +kernel
theorem dX4_readSum_38 : decode cX4_readSum 38 = .ok (.getfield 22, 3) := by decide +kernel
theorem dX4_readSum_41 : decode cX4_readSum 41 = .ok (.bipush 43, 2) := by decide +kernel
theorem dX4_readSum_43 : decode cX4_readSum 43 = .ok (.if_icmp .ne 8, 3) := by decide +kernel
theorem dX4_readSum_46 : decode cX4_readSum 46 = .ok (.bipush 6, 2) := by decide +kernel
theorem dX4_readSum_48 : decode cX4_readSum 48 = .ok (.goto 5, 3) := by decide +kernel
theorem dX4_readSum_51 : decode cX4_readSum 51 = .ok (.bipush 7, 2) := by decide +kernel
theorem dX4_readSum_53 : decode cX4_readSum 53 = .ok (.istore_n 3, 1) := by decide +kernel
theorem dX4_readSum_54 : decode cX4_readSum 54 = .ok (.aload_n 0, 1) := by decide +kernel
theorem dX4_readSum_55 : decode cX4_readSum 55 = .ok (.invokevirtual 54, 3) := by decide +kernel
theorem dX4_readSum_58 : decode cX4_readSum 58 = .ok (.aload_n 0, 1) := by decide +kernel
theorem dX4_readSum_59 : decode cX4_readSum 59 = .ok (.iload_n 1, 1) := by decide +kernel
theorem dX4_readSum_60 : decode cX4_readSum 60 = .ok (.invokevirtual 117, 3) := by decide +kernel
theorem dX4_readSum_63 : decode cX4_readSum 63 = .ok (.ifCond .ne 5, 3) := by decide +kernel
theorem dX4_readSum_66 : decode cX4_readSum 66 = .ok (.iconst 0, 1) := by decide +kernel
theorem dX4_readSum_67 : decode cX4_readSum 67 = .ok (.ireturn, 1) := by decide +kernel
theorem dX4_readSum_68 : decode cX4_readSum 68 = .ok (.aload_n 0, 1) := by decide +kernel
theorem dX4_readSum_69 : decode cX4_readSum 69 = .ok (.iload_n 3, 1) := by decide +kernel
theorem dX4_readSum_70 : decode cX4_readSum 70 = .ok (.iconst 0, 1) := by decide +kernel
theorem dX4_readSum_71 : decode cX4_readSum 71 = .ok (.invokevirtual 97, 3) := by decide +kernel
theorem dX4_readSum_74 : decode cX4_readSum 74 = .ok (.iinc 2 1, 3) := by decide +kernel
theorem dX4_readSum_77 : decode cX4_readSum 77 = .ok (.goto (-65), 3) := by decide +kernel
theorem dX4_readSum_80 : decode cX4_readSum 80 = .ok (.iconst 1, 1) := by decide +kernel
theorem dX4_readSum_81 : decode cX4_readSum 81 = .ok (.ireturn, 1) := by decide +kernel
theorem dX4_readTerm_0 : decode cX4_readTerm 0 = .ok (.aload_n 0, 1) := by decide +kernel
theorem dX4_readTerm_1 : decode cX4_readTerm 1 = .ok (.iload_n 1, 1) := by decide +kernel
theorem dX4_readTerm_2 : decode cX4_readTerm 2 = .ok (.invokevirtual 120, 3) := by decide +kernel
theorem dX4_readTerm_5 : decode cX4_readTerm 5 = .ok (.ifCond .ne 5, 3) := by decide +kernel
theorem dX4_readTerm_8 : decode cX4_readTerm 8 = .ok (.iconst 0, 1) := by decide +kernel
theorem dX4_readTerm_9 : decode cX4_readTerm 9 = .ok (.ireturn, 1) := by decide +kernel
theorem dX4_readTerm_10 : decode cX4_readTerm 10 = .ok (.iconst 0, 1) := by decide +kernel
theorem dX4_readTerm_11 : decode cX4_readTerm 11 = .ok (.istore_n 2, 1) := by decide +kernel
theorem dX4_readTerm_12 : decode cX4_readTerm 12 = .ok (.iload_n 2, 1) := by decide +kernel
theorem dX4_readTerm_13 : decode cX4_readTerm 13 = .ok (.sipush 400, 3) := by decide +kernel
theorem dX4_readTerm_16 : decode cX4_readTerm 16 = .ok (.if_icmp .ge 48, 3) := by decide +kernel
theorem dX4_readTerm_19 : decode cX4_readTerm 19 = .ok (.aload_n 0, 1) := by decide +kernel
theorem dX4_readTerm_20 : decode cX4_readTerm 20 = .ok (.getfield 22, 3) := by decide +kernel
theorem dX4_readTerm_23 : decode cX4_readTerm 23 = .ok (.invokestatic 123, 3) := by decide +kernel
theorem dX4_readTerm_26 : decode cX4_readTerm 26 = .ok (.iconst (-1), 1) := by decide +kernel
theorem dX4_readTerm_27 : decode cX4_readTerm 27 = .ok (.if_icmp .eq 37, 3) := by decide +kernel
theorem dX4_readTerm_30 : decode cX4_readTerm 30 = .ok (.aload_n 0, 1) := by decide +kernel
theorem dX4_readTerm_31 : decode cX4_readTerm 31 = .ok (.getfield 22, 3) := by decide +kernel
theorem dX4_readTerm_34 : decode cX4_readTerm 34 = .ok (.invokestatic 123, 3) := by decide +kernel
theorem dX4_readTerm_37 : decode cX4_readTerm 37 = .ok (.istore_n 3, 1) := by decide +kernel
theorem dX4_readTerm_38 : decode cX4_readTerm 38 = .ok (.aload_n 0, 1) := by decide +kernel
theorem dX4_readTerm_39 : decode cX4_readTerm 39 = .ok (.invokevirtual 54, 3) := by decide +kernel
theorem dX4_readTerm_42 : decode cX4_readTerm 42 = .ok (.aload_n 0, 1) := by decide +kernel
theorem dX4_readTerm_43 : decode cX4_readTerm 43 = .ok (.iload_n 1, 1) := by decide +kernel
theorem dX4_readTerm_44 : decode cX4_readTerm 44 = .ok (.invokevirtual 120, 3) := by decide +kernel
theorem dX4_readTerm_47 : decode cX4_readTerm 47 = .ok (.ifCond .ne 5, 3) := by decide +kernel
theorem dX4_readTerm_50 : decode cX4_readTerm 50 = .ok (.iconst 0, 1) := by decide +kernel
theorem dX4_readTerm_51 : decode cX4_readTerm 51 = .ok (.ireturn, 1) := by decide +kernel
theorem dX4_readTerm_52 : decode cX4_readTerm 52 = .ok (.aload_n 0, 1) := by decide +kernel
theorem dX4_readTerm_53 : decode cX4_readTerm 53 = .ok (.iload_n 3, 1) := by decide +kernel
theorem dX4_readTerm_54 : decode cX4_readTerm 54 = .ok (.iconst 0, 1) := by decide +kernel
theorem dX4_readTerm_55 : decode cX4_readTerm 55 = .ok (.invokevirtual 97, 3) := by decide +kernel
theorem dX4_readTerm_58 : decode cX4_readTerm 58 = .ok (.iinc 2 1, 3) := by decide +kernel
theorem dX4_readTerm_61 : decode cX4_readTerm 61 = .ok (.goto (-49), 3) := by decide +kernel
theorem dX4_readTerm_64 : decode cX4_readTerm 64 = .ok (.iconst 1, 1) := by decide +kernel
theorem dX4_readTerm_65 : decode cX4_readTerm 65 = .ok (.ireturn, 1) := by decide +kernel
theorem dX4_readPart_0 : decode cX4_readPart 0 = .ok (.aload_n 0, 1) := by decide +kernel
theorem dX4_readPart_1 : decode cX4_readPart 1 = .ok (.getfield 22, 3) := by decide +kernel
theorem dX4_readPart_4 : decode cX4_readPart 4 = .ok (.bipush 91, 2) := by decide +kernel
theorem dX4_readPart_6 : decode cX4_readPart 6 = .ok (.if_icmp .ne 9, 3) := by decide +kernel
theorem dX4_readPart_9 : decode cX4_readPart 9 = .ok (.aload_n 0, 1) := by decide +kernel
theorem dX4_readPart_10 : decode cX4_readPart 10 = .ok (.iload_n 1, 1) := by decide +kernel
theorem dX4_readPart_11 : decode cX4_readPart 11 = .ok (.invokevirtual 126, 3) := by decide +kernel
theorem dX4_readPart_14 : decode cX4_readPart 14 = .ok (.ireturn, 1) := by decide +kernel
theorem dX4_readPart_15 : decode cX4_readPart 15 = .ok (.aload_n 0, 1) := by decide +kernel
theorem dX4_readPart_16 : decode cX4_readPart 16 = .ok (.getfield 22, 3) := by decide +kernel
theorem dX4_readPart_19 : decode cX4_readPart 19 = .ok (.sipush 300, 3) := by decide +kernel
theorem dX4_readPart_22 : decode cX4_readPart 22 = .ok (.if_icmp .lt 22, 3) := by decide +kernel
theorem dX4_readPart_25 : decode cX4_readPart 25 = .ok (.aload_n 0, 1) := by decide +kernel
theorem dX4_readPart_26 : decode cX4_readPart 26 = .ok (.getfield 31, 3) := by decide +kernel
theorem dX4_readPart_29 : decode cX4_readPart 29 = .ok (.bipush 50, 2) := by decide +kernel
theorem dX4_readPart_31 : decode cX4_readPart 31 = .ok (.if_icmp .ge 13, 3) := by decide +kernel
theorem dX4_readPart_34 : decode cX4_readPart 34 = .ok (.aload_n 0, 1) := by decide +kernel
theorem dX4_readPart_35 : decode cX4_readPart 35 = .ok (.getfield 25, 3) := by decide +kernel
theorem dX4_readPart_38 : decode cX4_readPart 38 = .ok (.sipush 10000, 3) := by decide +kernel
theorem dX4_readPart_41 : decode cX4_readPart 41 = .ok (.if_icmp .le 5, 3) := by decide +kernel
theorem dX4_readPart_44 : decode cX4_readPart 44 = .ok (.iconst 0, 1) := by decide +kernel
theorem dX4_readPart_45 : decode cX4_readPart 45 = .ok (.ireturn, 1) := by decide +kernel
theorem dX4_readPart_46 : decode cX4_readPart 46 = .ok (.aload_n 0, 1) := by decide +kernel
theorem dX4_readPart_47 : decode cX4_readPart 47 = .ok (.dup, 1) := by decide +kernel
theorem dX4_readPart_48 : decode cX4_readPart 48 = .ok (.getfield 31, 3) := by decide +kernel
theorem dX4_readPart_51 : decode cX4_readPart 51 = .ok (.iconst 1, 1) := by decide +kernel
theorem dX4_readPart_52 : decode cX4_readPart 52 = .ok (.iadd, 1) := by decide +kernel
theorem dX4_readPart_53 : decode cX4_readPart 53 = .ok (.putfield 31, 3) := by decide +kernel
theorem dX4_readPart_56 : decode cX4_readPart 56 = .ok (.aload_n 0, 1) := by decide +kernel
theorem dX4_readPart_57 : decode cX4_readPart 57 = .ok (.aload_n 0, 1) := by decide +kernel
theorem dX4_readPart_58 : decode cX4_readPart 58 = .ok (.getfield 22, 3) := by decide +kernel
theorem dX4_readPart_61 : decode cX4_readPart 61 = .ok (.sipush 300, 3) := by decide +kernel
theorem dX4_readPart_64 : decode cX4_readPart 64 = .ok (.isub, 1) := by decide +kernel
theorem dX4_readPart_65 : decode cX4_readPart 65 = .ok (.aload_n 0, 1) := by decide +kernel
theorem dX4_readPart_66 : decode cX4_readPart 66 = .ok (.getfield 25, 3) := by decide +kernel
theorem dX4_readPart_69 : decode cX4_readPart 69 = .ok (.invokevirtual 97, 3) := by decide +kernel
theorem dX4_readPart_72 : decode cX4_readPart 72 = .ok (.aload_n 0, 1) := by decide +kernel
theorem dX4_readPart_73 : decode cX4_readPart 73 = .ok (.invokevirtual 54, 3) := by decide +kernel
theorem dX4_readPart_76 : decode cX4_readPart 76 = .ok (.iconst 1, 1) := by decide +kernel
theorem dX4_readPart_77 : decode cX4_readPart 77 = .ok (.ireturn, 1) := by decide +kernel
theorem dX4_readSquareBracket_0 : decode cX4_readSquareBracket 0 = .ok (.iload_n 1, 1) := by decide +kernel
theorem dX4_readSquareBracket_1 : decode cX4_readSquareBracket 1 = .ok (.bipush 8, 2) := by decide +kernel
theorem dX4_readSquareBracket_3 : decode cX4_readSquareBracket 3 = .ok (.if_icmp .lt 5, 3) := by decide +kernel
theorem dX4_readSquareBracket_6 : decode cX4_readSquareBracket 6 = .ok (.iconst 0, 1) := by decide +kernel
theorem dX4_readSquareBracket_7 : decode cX4_readSquareBracket 7 = .ok (.ireturn, 1) := by decide +kernel
theorem dX4_readSquareBracket_8 : decode cX4_readSquareBracket 8 = .ok (.aload_n 0, 1) := by decide +kernel
theorem dX4_readSquareBracket_9 : decode cX4_readSquareBracket 9 = .ok (.invokevirtual 54, 3) := by decide +kernel
theorem dX4_readSquareBracket_12 : decode cX4_readSquareBracket 12 = .ok (.aload_n 0, 1) := by decide +kernel
theorem dX4_readSquareBracket_13 : decode cX4_readSquareBracket 13 = .ok (.iload_n 1, 1) := by decide +kernel
theorem dX4_readSquareBracket_14 : decode cX4_readSquareBracket 14 = .ok (.iconst 1, 1) := by decide +kernel
theorem dX4_readSquareBracket_15 : decode cX4_readSquareBracket 15 = .ok (.iadd, 1) := by decide +kernel
theorem dX4_readSquareBracket_16 : decode cX4_readSquareBracket 16 = .ok (.invokevirtual 87, 3) := by decide +kernel
theorem dX4_readSquareBracket_19 : decode cX4_readSquareBracket 19 = .ok (.ifCond .eq 12, 3) := by decide +kernel
theorem dX4_readSquareBracket_22 : decode cX4_readSquareBracket 22 = .ok (.aload_n 0, 1) := by decide +kernel
theorem dX4_readSquareBracket_23 : decode cX4_readSquareBracket 23 = .ok (.getfield 22, 3) := by decide +kernel
theorem dX4_readSquareBracket_26 : decode cX4_readSquareBracket 26 = .ok (.bipush 93, 2) := by decide +kernel
theorem dX4_readSquareBracket_28 : decode cX4_readSquareBracket 28 = .ok (.if_icmp .eq 5, 3) := by decide +kernel
theorem dX4_readSquareBracket_31 : decode cX4_readSquareBracket 31 = .ok (.iconst 0, 1) := by decide +kernel
theorem dX4_readSquareBracket_32 : decode cX4_readSquareBracket 32 = .ok (.ireturn, 1) := by decide +kernel
theorem dX4_readSquareBracket_33 : decode cX4_readSquareBracket 33 = .ok (.aload_n 0, 1) := by decide +kernel
theorem dX4_readSquareBracket_34 : decode cX4_readSquareBracket 34 = .ok (.invokevirtual 54, 3) := by decide +kernel
theorem dX4_readSquareBracket_37 : decode cX4_readSquareBracket 37 = .ok (.iconst 1, 1) := by decide +kernel
theorem dX4_readSquareBracket_38 : decode cX4_readSquareBracket 38 = .ok (.ireturn, 1) := by decide +kernel
theorem dX4_comparisonOf_0 : decode cX4_comparisonOf 0 = .ok (.iload_n 0, 1) := by decide +kernel
theorem dX4_comparisonOf_1 : decode cX4_comparisonOf 1 = .ok (.tableswitch 36 60 62 #[27, 33, 30], 27) := by decide +kernel
theorem dX4_comparisonOf_28 : decode cX4_comparisonOf 28 = .ok (.bipush 11, 2) := by decide +kernel
theorem dX4_comparisonOf_30 : decode cX4_comparisonOf 30 = .ok (.ireturn, 1) := by decide +kernel
theorem dX4_comparisonOf_31 : decode cX4_comparisonOf 31 = .ok (.bipush 12, 2) := by decide +kernel
theorem dX4_comparisonOf_33 : decode cX4_comparisonOf 33 = .ok (.ireturn, 1) := by decide +kernel
theorem dX4_comparisonOf_34 : decode cX4_comparisonOf 34 = .ok (.bipush 13, 2) := by decide +kernel
theorem dX4_comparisonOf_36 : decode cX4_comparisonOf 36 = .ok (.ireturn, 1) := by decide +kernel
theorem dX4_comparisonOf_37 : decode cX4_comparisonOf 37 = .ok (.iconst (-1), 1) := by decide +kernel
theorem dX4_comparisonOf_38 : decode cX4_comparisonOf 38 = .ok (.ireturn, 1) := by decide +kernel
theorem dX4_multiplierOf_0 : decode cX4_multiplierOf 0 = .ok (.iload_n 0, 1) := by decide +kernel
theorem dX4_multiplierOf_1 : decode cX4_multiplierOf 1 = .ok (.lookupswitch 44 #[(37, 41), (42, 35), (47, 38)], 35) := by decide +kernel
theorem dX4_multiplierOf_36 : decode cX4_multiplierOf 36 = .ok (.bipush 8, 2) := by decide +kernel
theorem dX4_multiplierOf_38 : decode cX4_multiplierOf 38 = .ok (.ireturn, 1) := by decide +kernel
theorem dX4_multiplierOf_39 : decode cX4_multiplierOf 39 = .ok (.bipush 9, 2) := by decide +kernel
theorem dX4_multiplierOf_41 : decode cX4_multiplierOf 41 = .ok (.ireturn, 1) := by decide +kernel
theorem dX4_multiplierOf_42 : decode cX4_multiplierOf 42 = .ok (.bipush 10, 2) := by decide +kernel
theorem dX4_multiplierOf_44 : decode cX4_multiplierOf 44 = .ok (.ireturn, 1) := by decide +kernel
theorem dX4_multiplierOf_45 : decode cX4_multiplierOf 45 = .ok (.iconst (-1), 1) := by decide +kernel
theorem dX4_multiplierOf_46 : decode cX4_multiplierOf 46 = .ok (.ireturn, 1) := by decide +kernel
theorem dX4_addStep_0 : decode cX4_addStep 0 = .ok (.aload_n 0, 1) := by decide +kernel
theorem dX4_addStep_1 : decode cX4_addStep 1 = .ok (.getfield 37, 3) := by decide +kernel
theorem dX4_addStep_4 : decode cX4_addStep 4 = .ok (.ifCond .lt 39, 3) := by decide +kernel
theorem dX4_addStep_7 : decode cX4_addStep 7 = .ok (.aload_n 0, 1) := by decide +kernel
theorem dX4_addStep_8 : decode cX4_addStep 8 = .ok (.getfield 37, 3) := by decide +kernel
theorem dX4_addStep_11 : decode cX4_addStep 11 = .ok (.aload_n 0, 1) := by decide +kernel
theorem dX4_addStep_12 : decode cX4_addStep 12 = .ok (.getfield 40, 3) := by decide +kernel
theorem dX4_addStep_15 : decode cX4_addStep 15 = .ok (.arraylength, 1) := by decide +kernel
theorem dX4_addStep_16 : decode cX4_addStep 16 = .ok (.if_icmp .ge 27, 3) := by decide +kernel
theorem dX4_addStep_19 : decode cX4_addStep 19 = .ok (.aload_n 0, 1) := by decide +kernel
theorem dX4_addStep_20 : decode cX4_addStep 20 = .ok (.getfield 40, 3) := by decide +kernel
theorem dX4_addStep_23 : decode cX4_addStep 23 = .ok (.aload_n 0, 1) := by decide +kernel
theorem dX4_addStep_24 : decode cX4_addStep 24 = .ok (.getfield 37, 3) := by decide +kernel
theorem dX4_addStep_27 : decode cX4_addStep 27 = .ok (.iload_n 2, 1) := by decide +kernel
theorem dX4_addStep_28 : decode cX4_addStep 28 = .ok (.iconst 5, 1) := by decide +kernel
theorem dX4_addStep_29 : decode cX4_addStep 29 = .ok (.ishl, 1) := by decide +kernel
theorem dX4_addStep_30 : decode cX4_addStep 30 = .ok (.iload_n 1, 1) := by decide +kernel
theorem dX4_addStep_31 : decode cX4_addStep 31 = .ok (.ior, 1) := by decide +kernel
theorem dX4_addStep_32 : decode cX4_addStep 32 = .ok (.iastore, 1) := by decide +kernel
theorem dX4_addStep_33 : decode cX4_addStep 33 = .ok (.aload_n 0, 1) := by decide +kernel
theorem dX4_addStep_34 : decode cX4_addStep 34 = .ok (.dup, 1) := by decide +kernel
theorem dX4_addStep_35 : decode cX4_addStep 35 = .ok (.getfield 37, 3) := by decide +kernel
theorem dX4_addStep_38 : decode cX4_addStep 38 = .ok (.iconst 1, 1) := by decide +kernel
theorem dX4_addStep_39 : decode cX4_addStep 39 = .ok (.iadd, 1) := by decide +kernel
theorem dX4_addStep_40 : decode cX4_addStep 40 = .ok (.putfield 37, 3) := by decide +kernel
theorem dX4_addStep_43 : decode cX4_addStep 43 = .ok (.return_, 1) := by decide +kernel
theorem dX4_aimHere_0 : decode cX4_aimHere 0 = .ok (.iload_n 1, 1) := by decide +kernel
theorem dX4_aimHere_1 : decode cX4_aimHere 1 = .ok (.ifCond .lt 26, 3) := by decide +kernel
theorem dX4_aimHere_4 : decode cX4_aimHere 4 = .ok (.iload_n 1, 1) := by decide +kernel
theorem dX4_aimHere_5 : decode cX4_aimHere 5 = .ok (.aload_n 0, 1) := by decide +kernel
theorem dX4_aimHere_6 : decode cX4_aimHere 6 = .ok (.getfield 40, 3) := by decide +kernel
theorem dX4_aimHere_9 : decode cX4_aimHere 9 = .ok (.arraylength, 1) := by decide +kernel
theorem dX4_aimHere_10 : decode cX4_aimHere 10 = .ok (.if_icmp .ge 17, 3) := by decide +kernel
theorem dX4_aimHere_13 : decode cX4_aimHere 13 = .ok (.aload_n 0, 1) := by decide +kernel
theorem dX4_aimHere_14 : decode cX4_aimHere 14 = .ok (.getfield 40, 3) := by decide +kernel
theorem dX4_aimHere_17 : decode cX4_aimHere 17 = .ok (.iload_n 1, 1) := by decide +kernel
theorem dX4_aimHere_18 : decode cX4_aimHere 18 = .ok (.aload_n 0, 1) := by decide +kernel
theorem dX4_aimHere_19 : decode cX4_aimHere 19 = .ok (.getfield 37, 3) := by decide +kernel
theorem dX4_aimHere_22 : decode cX4_aimHere 22 = .ok (.iconst 5, 1) := by decide +kernel
theorem dX4_aimHere_23 : decode cX4_aimHere 23 = .ok (.ishl, 1) := by decide +kernel
theorem dX4_aimHere_24 : decode cX4_aimHere 24 = .ok (.iload_n 2, 1) := by decide +kernel
theorem dX4_aimHere_25 : decode cX4_aimHere 25 = .ok (.ior, 1) := by decide +kernel
theorem dX4_aimHere_26 : decode cX4_aimHere 26 = .ok (.iastore, 1) := by decide +kernel
theorem dX4_aimHere_27 : decode cX4_aimHere 27 = .ok (.return_, 1) := by decide +kernel
theorem dX4_nextToken_0 : decode cX4_nextToken 0 = .ok (.aload_n 0, 1) := by decide +kernel
theorem dX4_nextToken_1 : decode cX4_nextToken 1 = .ok (.aload_n 0, 1) := by decide +kernel
theorem dX4_nextToken_2 : decode cX4_nextToken 2 = .ok (.getfield 18, 3) := by decide +kernel
theorem dX4_nextToken_5 : decode cX4_nextToken 5 = .ok (.iconst 1, 1) := by decide +kernel
theorem dX4_nextToken_6 : decode cX4_nextToken 6 = .ok (.iadd, 1) := by decide +kernel
theorem dX4_nextToken_7 : decode cX4_nextToken 7 = .ok (.aload_n 0, 1) := by decide +kernel
theorem dX4_nextToken_8 : decode cX4_nextToken 8 = .ok (.getfield 12, 3) := by decide +kernel
theorem dX4_nextToken_11 : decode cX4_nextToken 11 = .ok (.getfield 129, 3) := by decide +kernel
theorem dX4_nextToken_14 : decode cX4_nextToken 14 = .ok (.iconst 1, 1) := by decide +kernel
theorem dX4_nextToken_15 : decode cX4_nextToken 15 = .ok (.isub, 1) := by decide +kernel
theorem dX4_nextToken_16 : decode cX4_nextToken 16 = .ok (.invokestatic 67, 3) := by decide +kernel
theorem dX4_nextToken_19 : decode cX4_nextToken 19 = .ok (.putfield 18, 3) := by decide +kernel
theorem dX4_nextToken_22 : decode cX4_nextToken 22 = .ok (.aload_n 0, 1) := by decide +kernel
theorem dX4_nextToken_23 : decode cX4_nextToken 23 = .ok (.getfield 18, 3) := by decide +kernel
theorem dX4_nextToken_26 : decode cX4_nextToken 26 = .ok (.ifCond .lt 61, 3) := by decide +kernel
theorem dX4_nextToken_29 : decode cX4_nextToken 29 = .ok (.aload_n 0, 1) := by decide +kernel
theorem dX4_nextToken_30 : decode cX4_nextToken 30 = .ok (.getfield 18, 3) := by decide +kernel
theorem dX4_nextToken_33 : decode cX4_nextToken 33 = .ok (.sipush 400, 3) := by decide +kernel
theorem dX4_nextToken_36 : decode cX4_nextToken 36 = .ok (.if_icmp .gt 51, 3) := by decide +kernel
theorem dX4_nextToken_39 : decode cX4_nextToken 39 = .ok (.aload_n 0, 1) := by decide +kernel
theorem dX4_nextToken_40 : decode cX4_nextToken 40 = .ok (.aload_n 0, 1) := by decide +kernel
theorem dX4_nextToken_41 : decode cX4_nextToken 41 = .ok (.getfield 12, 3) := by decide +kernel
theorem dX4_nextToken_44 : decode cX4_nextToken 44 = .ok (.getfield 132, 3) := by decide +kernel
theorem dX4_nextToken_47 : decode cX4_nextToken 47 = .ok (.aload_n 0, 1) := by decide +kernel
theorem dX4_nextToken_48 : decode cX4_nextToken 48 = .ok (.getfield 18, 3) := by decide +kernel
theorem dX4_nextToken_51 : decode cX4_nextToken 51 = .ok (.iaload, 1) := by decide +kernel
theorem dX4_nextToken_52 : decode cX4_nextToken 52 = .ok (.putfield 22, 3) := by decide +kernel
theorem dX4_nextToken_55 : decode cX4_nextToken 55 = .ok (.aload_n 0, 1) := by decide +kernel
theorem dX4_nextToken_56 : decode cX4_nextToken 56 = .ok (.aload_n 0, 1) := by decide +kernel
theorem dX4_nextToken_57 : decode cX4_nextToken 57 = .ok (.getfield 12, 3) := by decide +kernel
theorem dX4_nextToken_60 : decode cX4_nextToken 60 = .ok (.getfield 135, 3) := by decide +kernel
theorem dX4_nextToken_63 : decode cX4_nextToken 63 = .ok (.aload_n 0, 1) := by decide +kernel
theorem dX4_nextToken_64 : decode cX4_nextToken 64 = .ok (.getfield 18, 3) := by decide +kernel
theorem dX4_nextToken_67 : decode cX4_nextToken 67 = .ok (.iaload, 1) := by decide +kernel
theorem dX4_nextToken_68 : decode cX4_nextToken 68 = .ok (.putfield 25, 3) := by decide +kernel
theorem dX4_nextToken_71 : decode cX4_nextToken 71 = .ok (.aload_n 0, 1) := by decide +kernel
theorem dX4_nextToken_72 : decode cX4_nextToken 72 = .ok (.aload_n 0, 1) := by decide +kernel
theorem dX4_nextToken_73 : decode cX4_nextToken 73 = .ok (.getfield 12, 3) := by decide +kernel
theorem dX4_nextToken_76 : decode cX4_nextToken 76 = .ok (.getfield 138, 3) := by decide +kernel
theorem dX4_nextToken_79 : decode cX4_nextToken 79 = .ok (.aload_n 0, 1) := by decide +kernel
theorem dX4_nextToken_80 : decode cX4_nextToken 80 = .ok (.getfield 18, 3) := by decide +kernel
theorem dX4_nextToken_83 : decode cX4_nextToken 83 = .ok (.iaload, 1) := by decide +kernel
theorem dX4_nextToken_84 : decode cX4_nextToken 84 = .ok (.putfield 28, 3) := by decide +kernel
theorem dX4_nextToken_87 : decode cX4_nextToken 87 = .ok (.return_, 1) := by decide +kernel
theorem dX5_init_0 : decode cX5_init 0 = .ok (.aload_n 0, 1) := by decide +kernel
theorem dX5_init_1 : decode cX5_init 1 = .ok (.invokespecial 3, 3) := by decide +kernel
theorem dX5_init_4 : decode cX5_init 4 = .ok (.aload_n 0, 1) := by decide +kernel
theorem dX5_init_5 : decode cX5_init 5 = .ok (.iconst 4, 1) := by decide +kernel
theorem dX5_init_6 : decode cX5_init 6 = .ok (.newarray .int, 2) := by decide +kernel
theorem dX5_init_8 : decode cX5_init 8 = .ok (.putfield 9, 3) := by decide +kernel
theorem dX5_init_11 : decode cX5_init 11 = .ok (.aload_n 0, 1) := by decide +kernel
theorem dX5_init_12 : decode cX5_init 12 = .ok (.iconst 4, 1) := by decide +kernel
theorem dX5_init_13 : decode cX5_init 13 = .ok (.newarray .int, 2) := by decide +kernel
theorem dX5_init_15 : decode cX5_init 15 = .ok (.putfield 15, 3) := by decide +kernel
theorem dX5_init_18 : decode cX5_init 18 = .ok (.aload_n 0, 1) := by decide +kernel
theorem dX5_init_19 : decode cX5_init 19 = .ok (.iconst 0, 1) := by decide +kernel
theorem dX5_init_20 : decode cX5_init 20 = .ok (.putfield 18, 3) := by decide +kernel
theorem dX5_init_23 : decode cX5_init 23 = .ok (.return_, 1) := by decide +kernel
theorem dX5_goThrough_0 : decode cX5_goThrough 0 = .ok (.aload_n 0, 1) := by decide +kernel
theorem dX5_goThrough_1 : decode cX5_goThrough 1 = .ok (.iconst 0, 1) := by decide +kernel
theorem dX5_goThrough_2 : decode cX5_goThrough 2 = .ok (.putfield 18, 3) := by decide +kernel
theorem dX5_goThrough_5 : decode cX5_goThrough 5 = .ok (.iconst 0, 1) := by decide +kernel
theorem dX5_goThrough_6 : decode cX5_goThrough 6 = .ok (.istore_n 2, 1) := by decide +kernel
theorem dX5_goThrough_7 : decode cX5_goThrough 7 = .ok (.iload_n 2, 1) := by decide +kernel
theorem dX5_goThrough_8 : decode cX5_goThrough 8 = .ok (.aload_n 1, 1) := by decide +kernel
theorem dX5_goThrough_9 : decode cX5_goThrough 9 = .ok (.getfield 22, 3) := by decide +kernel
theorem dX5_goThrough_12 : decode cX5_goThrough 12 = .ok (.if_icmp .ge 62, 3) := by decide +kernel
theorem dX5_goThrough_15 : decode cX5_goThrough 15 = .ok (.iconst 0, 1) := by decide +kernel
theorem dX5_goThrough_16 : decode cX5_goThrough 16 = .ok (.istore_n 3, 1) := by decide +kernel
theorem dX5_goThrough_17 : decode cX5_goThrough 17 = .ok (.iload_n 3, 1) := by decide +kernel
theorem dX5_goThrough_18 : decode cX5_goThrough 18 = .ok (.aload_n 1, 1) := by decide +kernel
theorem dX5_goThrough_19 : decode cX5_goThrough 19 = .ok (.getfield 22, 3) := by decide +kernel
theorem dX5_goThrough_22 : decode cX5_goThrough 22 = .ok (.if_icmp .ge 46, 3) := by decide +kernel
theorem dX5_goThrough_25 : decode cX5_goThrough 25 = .ok (.iload_n 2, 1) := by decide +kernel
theorem dX5_goThrough_26 : decode cX5_goThrough 26 = .ok (.iload_n 3, 1) := by decide +kernel
theorem dX5_goThrough_27 : decode cX5_goThrough 27 = .ok (.if_icmp .eq 35, 3) := by decide +kernel
theorem dX5_goThrough_30 : decode cX5_goThrough 30 = .ok (.aload_n 0, 1) := by decide +kernel
theorem dX5_goThrough_31 : decode cX5_goThrough 31 = .ok (.getfield 9, 3) := by decide +kernel
theorem dX5_goThrough_34 : decode cX5_goThrough 34 = .ok (.iconst 0, 1) := by decide +kernel
theorem dX5_goThrough_35 : decode cX5_goThrough 35 = .ok (.iload_n 2, 1) := by decide +kernel
theorem dX5_goThrough_36 : decode cX5_goThrough 36 = .ok (.iastore, 1) := by decide +kernel
theorem dX5_goThrough_37 : decode cX5_goThrough 37 = .ok (.aload_n 0, 1) := by decide +kernel
theorem dX5_goThrough_38 : decode cX5_goThrough 38 = .ok (.getfield 9, 3) := by decide +kernel
theorem dX5_goThrough_41 : decode cX5_goThrough 41 = .ok (.iconst 1, 1) := by decide +kernel
theorem dX5_goThrough_42 : decode cX5_goThrough 42 = .ok (.iload_n 3, 1) := by decide +kernel
theorem dX5_goThrough_43 : decode cX5_goThrough 43 = .ok (.iastore, 1) := by decide +kernel
theorem dX5_goThrough_44 : decode cX5_goThrough 44 = .ok (.aload_n 0, 1) := by decide +kernel
theorem dX5_goThrough_45 : decode cX5_goThrough 45 = .ok (.aload_n 1, 1) := by decide +kernel
theorem dX5_goThrough_46 : decode cX5_goThrough 46 = .ok (.iload_n 2, 1) := by decide +kernel
theorem dX5_goThrough_47 : decode cX5_goThrough 47 = .ok (.invokevirtual 27, 3) := by decide +kernel
theorem dX5_goThrough_50 : decode cX5_goThrough 50 = .ok (.i2l, 1) := by decide +kernel
theorem dX5_goThrough_51 : decode cX5_goThrough 51 = .ok (.aload_n 1, 1) := by decide +kernel
theorem dX5_goThrough_52 : decode cX5_goThrough 52 = .ok (.iload_n 3, 1) := by decide +kernel
theorem dX5_goThrough_53 : decode cX5_goThrough 53 = .ok (.invokevirtual 27, 3) := by decide +kernel
theorem dX5_goThrough_56 : decode cX5_goThrough 56 = .ok (.i2l, 1) := by decide +kernel
theorem dX5_goThrough_57 : decode cX5_goThrough 57 = .ok (.iconst 1, 1) := by decide +kernel
theorem dX5_goThrough_58 : decode cX5_goThrough 58 = .ok (.iconst 1, 1) := by decide +kernel
theorem dX5_goThrough_59 : decode cX5_goThrough 59 = .ok (.invokevirtual 31, 3) := by decide +kernel
theorem dX5_goThrough_62 : decode cX5_goThrough 62 = .ok (.iinc 3 1, 3) := by decide +kernel
theorem dX5_goThrough_65 : decode cX5_goThrough 65 = .ok (.goto (-48), 3) := by decide +kernel
theorem dX5_goThrough_68 : decode cX5_goThrough 68 = .ok (.iinc 2 1, 3) := by decide +kernel
theorem dX5_goThrough_71 : decode cX5_goThrough 71 = .ok (.goto (-64), 3) := by decide +kernel
theorem dX5_goThrough_74 : decode cX5_goThrough 74 = .ok (.iconst 0, 1) := by decide +kernel
theorem dX5_goThrough_75 : decode cX5_goThrough 75 = .ok (.istore_n 2, 1) := by decide +kernel
theorem dX5_goThrough_76 : decode cX5_goThrough 76 = .ok (.iload_n 2, 1) := by decide +kernel
theorem dX5_goThrough_77 : decode cX5_goThrough 77 = .ok (.aload_n 1, 1) := by decide +kernel
theorem dX5_goThrough_78 : decode cX5_goThrough 78 = .ok (.getfield 22, 3) := by decide +kernel
theorem dX5_goThrough_81 : decode cX5_goThrough 81 = .ok (.if_icmp .ge 37, 3) := by decide +kernel
theorem dX5_goThrough_84 : decode cX5_goThrough 84 = .ok (.iconst 0, 1) := by decide +kernel
theorem dX5_goThrough_85 : decode cX5_goThrough 85 = .ok (.istore_n 3, 1) := by decide +kernel
theorem dX5_goThrough_86 : decode cX5_goThrough 86 = .ok (.iload_n 3, 1) := by decide +kernel
theorem dX5_goThrough_87 : decode cX5_goThrough 87 = .ok (.aload_n 1, 1) := by decide +kernel
theorem dX5_goThrough_88 : decode cX5_goThrough 88 = .ok (.getfield 22, 3) := by decide +kernel
theorem dX5_goThrough_91 : decode cX5_goThrough 91 = .ok (.if_icmp .ge 21, 3) := by decide +kernel
theorem dX5_goThrough_94 : decode cX5_goThrough 94 = .ok (.iload_n 2, 1) := by decide +kernel
theorem dX5_goThrough_95 : decode cX5_goThrough 95 = .ok (.iload_n 3, 1) := by decide +kernel
theorem dX5_goThrough_96 : decode cX5_goThrough 96 = .ok (.if_icmp .eq 10, 3) := by decide +kernel
theorem dX5_goThrough_99 : decode cX5_goThrough 99 = .ok (.aload_n 0, 1) := by decide +kernel
theorem dX5_goThrough_100 : decode cX5_goThrough 100 = .ok (.aload_n 1, 1) := by decide +kernel
theorem dX5_goThrough_101 : decode cX5_goThrough 101 = .ok (.iload_n 2, 1) := by decide +kernel
theorem dX5_goThrough_102 : decode cX5_goThrough 102 = .ok (.iload_n 3, 1) := by decide +kernel
theorem dX5_goThrough_103 : decode cX5_goThrough 103 = .ok (.invokevirtual 35, 3) := by decide +kernel
theorem dX5_goThrough_106 : decode cX5_goThrough 106 = .ok (.iinc 3 1, 3) := by decide +kernel
theorem dX5_goThrough_109 : decode cX5_goThrough 109 = .ok (.goto (-23), 3) := by decide +kernel
theorem dX5_goThrough_112 : decode cX5_goThrough 112 = .ok (.iinc 2 1, 3) := by decide +kernel
theorem dX5_goThrough_115 : decode cX5_goThrough 115 = .ok (.goto (-39), 3) := by decide +kernel
theorem dX5_goThrough_118 : decode cX5_goThrough 118 = .ok (.return_, 1) := by decide +kernel
theorem dX5_goThroughSecondPairs_0 : decode cX5_goThroughSecondPairs 0 = .ok (.aload_n 0, 1) := by decide +kernel
theorem dX5_goThroughSecondPairs_1 : decode cX5_goThroughSecondPairs 1 = .ok (.getfield 9, 3) := by decide +kernel
theorem dX5_goThroughSecondPairs_4 : decode cX5_goThroughSecondPairs 4 = .ok (.iconst 0, 1) := by decide +kernel
theorem dX5_goThroughSecondPairs_5 : decode cX5_goThroughSecondPairs 5 = .ok (.iload_n 2, 1) := by decide +kernel
theorem dX5_goThroughSecondPairs_6 : decode cX5_goThroughSecondPairs 6 = .ok (.iastore, 1) := by decide +kernel
theorem dX5_goThroughSecondPairs_7 : decode cX5_goThroughSecondPairs 7 = .ok (.aload_n 0, 1) := by decide +kernel
theorem dX5_goThroughSecondPairs_8 : decode cX5_goThroughSecondPairs 8 = .ok (.getfield 9, 3) := by decide +kernel
theorem dX5_goThroughSecondPairs_11 : decode cX5_goThroughSecondPairs 11 = .ok (.iconst 1, 1) := by decide +kernel
theorem dX5_goThroughSecondPairs_12 : decode cX5_goThroughSecondPairs 12 = .ok (.iload_n 3, 1) := by decide +kernel
theorem dX5_goThroughSecondPairs_13 : decode cX5_goThroughSecondPairs 13 = .ok (.iastore, 1) := by decide +kernel
theorem dX5_goThroughSecondPairs_14 : decode cX5_goThroughSecondPairs 14 = .ok (.iload_n 2, 1) := by decide +kernel
theorem dX5_goThroughSecondPairs_15 : decode cX5_goThroughSecondPairs 15 = .ok (.iconst 1, 1) := by decide +kernel
theorem dX5_goThroughSecondPairs_16 : decode cX5_goThroughSecondPairs 16 = .ok (.iadd, 1) := by decide +kernel
theorem dX5_goThroughSecondPairs_17 : decode cX5_goThroughSecondPairs 17 = .ok (.istore 4, 2) := by decide +kernel
theorem dX5_goThroughSecondPairs_19 : decode cX5_goThroughSecondPairs 19 = .ok (.iload 4, 2) := by decide +kernel
theorem dX5_goThroughSecondPairs_21 : decode cX5_goThroughSecondPairs 21 = .ok (.aload_n 1, 1) := by decide +kernel
theorem dX5_goThroughSecondPairs_22 : decode cX5_goThroughSecondPairs 22 = .ok (.getfield 22, 3) := by decide +kernel
theorem dX5_goThroughSecondPairs_25 : decode cX5_goThroughSecondPairs 25 = .ok (.if_icmp .ge 105, 3) := by decide +kernel
theorem dX5_goThroughSecondPairs_28 : decode cX5_goThroughSecondPairs 28 = .ok (.iload 4, 2) := by decide +kernel
theorem dX5_goThroughSecondPairs_30 : decode cX5_goThroughSecondPairs 30 = .ok (.iload_n 3, 1) := by decide +kernel
theorem dX5_goThroughSecondPairs_31 : decode cX5_goThroughSecondPairs 31 = .ok (.if_icmp .ne 6, 3) := by decide +kernel
theorem dX5_goThroughSecondPairs_34 : decode cX5_goThroughSecondPairs 34 = .ok (.goto 90, 3) := by decide +kernel
theorem dX5_goThroughSecondPairs_37 : decode cX5_goThroughSecondPairs 37 = .ok (.aload_n 1, 1) := by decide +kernel
theorem dX5_goThroughSecondPairs_38 : decode cX5_goThroughSecondPairs 38 = .ok (.iload_n 2, 1) := by decide +kernel
theorem dX5_goThroughSecondPairs_39 : decode cX5_goThroughSecondPairs 39 = .ok (.invokevirtual 27, 3) := by decide +kernel
theorem dX5_goThroughSecondPairs_42 : decode cX5_goThroughSecondPairs 42 = .ok (.i2l, 1) := by decide +kernel
theorem dX5_goThroughSecondPairs_43 : decode cX5_goThroughSecondPairs 43 = .ok (.aload_n 1, 1) := by decide +kernel
theorem dX5_goThroughSecondPairs_44 : decode cX5_goThroughSecondPairs 44 = .ok (.iload 4, 2) := by decide +kernel
theorem dX5_goThroughSecondPairs_46 : decode cX5_goThroughSecondPairs 46 = .ok (.invokevirtual 27, 3) := by decide +kernel
theorem dX5_goThroughSecondPairs_49 : decode cX5_goThroughSecondPairs 49 = .ok (.i2l, 1) := by decide +kernel
theorem dX5_goThroughSecondPairs_50 : decode cX5_goThroughSecondPairs 50 = .ok (.lmul, 1) := by decide +kernel
theorem dX5_goThroughSecondPairs_51 : decode cX5_goThroughSecondPairs 51 = .ok (.lstore 5, 2) := by decide +kernel
theorem dX5_goThroughSecondPairs_53 : decode cX5_goThroughSecondPairs 53 = .ok (.iload_n 3, 1) := by decide +kernel
theorem dX5_goThroughSecondPairs_54 : decode cX5_goThroughSecondPairs 54 = .ok (.iconst 1, 1) := by decide +kernel
theorem dX5_goThroughSecondPairs_55 : decode cX5_goThroughSecondPairs 55 = .ok (.iadd, 1) := by decide +kernel
theorem dX5_goThroughSecondPairs_56 : decode cX5_goThroughSecondPairs 56 = .ok (.istore 7, 2) := by decide +kernel
theorem dX5_goThroughSecondPairs_58 : decode cX5_goThroughSecondPairs 58 = .ok (.iload 7, 2) := by decide +kernel
theorem dX5_goThroughSecondPairs_60 : decode cX5_goThroughSecondPairs 60 = .ok (.aload_n 1, 1) := by decide +kernel
theorem dX5_goThroughSecondPairs_61 : decode cX5_goThroughSecondPairs 61 = .ok (.getfield 22, 3) := by decide +kernel
theorem dX5_goThroughSecondPairs_64 : decode cX5_goThroughSecondPairs 64 = .ok (.if_icmp .ge 60, 3) := by decide +kernel
theorem dX5_goThroughSecondPairs_67 : decode cX5_goThroughSecondPairs 67 = .ok (.iload 7, 2) := by decide +kernel
theorem dX5_goThroughSecondPairs_69 : decode cX5_goThroughSecondPairs 69 = .ok (.iload_n 2, 1) := by decide +kernel
theorem dX5_goThroughSecondPairs_70 : decode cX5_goThroughSecondPairs 70 = .ok (.if_icmp .eq 48, 3) := by decide +kernel
theorem dX5_goThroughSecondPairs_73 : decode cX5_goThroughSecondPairs 73 = .ok (.iload 7, 2) := by decide +kernel
theorem dX5_goThroughSecondPairs_75 : decode cX5_goThroughSecondPairs 75 = .ok (.iload 4, 2) := by decide +kernel
theorem dX5_goThroughSecondPairs_77 : decode cX5_goThroughSecondPairs 77 = .ok (.if_icmp .eq 41, 3) := by decide +kernel
theorem dX5_goThroughSecondPairs_80 : decode cX5_goThroughSecondPairs 80 = .ok (.aload_n 0, 1) := by decide +kernel
theorem dX5_goThroughSecondPairs_81 : decode cX5_goThroughSecondPairs 81 = .ok (.getfield 9, 3) := by decide +kernel
theorem dX5_goThroughSecondPairs_84 : decode cX5_goThroughSecondPairs 84 = .ok (.iconst 2, 1) := by decide +kernel
theorem dX5_goThroughSecondPairs_85 : decode cX5_goThroughSecondPairs 85 = .ok (.iload 4, 2) := by decide +kernel
theorem dX5_goThroughSecondPairs_87 : decode cX5_goThroughSecondPairs 87 = .ok (.iastore, 1) := by decide +kernel
theorem dX5_goThroughSecondPairs_88 : decode cX5_goThroughSecondPairs 88 = .ok (.aload_n 0, 1) := by decide +kernel
theorem dX5_goThroughSecondPairs_89 : decode cX5_goThroughSecondPairs 89 = .ok (.getfield 9, 3) := by decide +kernel
theorem dX5_goThroughSecondPairs_92 : decode cX5_goThroughSecondPairs 92 = .ok (.iconst 3, 1) := by decide +kernel
theorem dX5_goThroughSecondPairs_93 : decode cX5_goThroughSecondPairs 93 = .ok (.iload 7, 2) := by decide +kernel
theorem dX5_goThroughSecondPairs_95 : decode cX5_goThroughSecondPairs 95 = .ok (.iastore, 1) := by decide +kernel
theorem dX5_goThroughSecondPairs_96 : decode cX5_goThroughSecondPairs 96 = .ok (.aload_n 0, 1) := by decide +kernel
theorem dX5_goThroughSecondPairs_97 : decode cX5_goThroughSecondPairs 97 = .ok (.lload 5, 2) := by decide +kernel
theorem dX5_goThroughSecondPairs_99 : decode cX5_goThroughSecondPairs 99 = .ok (.aload_n 1, 1) := by decide +kernel
theorem dX5_goThroughSecondPairs_100 : decode cX5_goThroughSecondPairs 100 = .ok (.iload_n 3, 1) := by decide +kernel
theorem dX5_goThroughSecondPairs_101 : decode cX5_goThroughSecondPairs 101 = .ok (.invokevirtual 27, 3) := by decide +kernel
theorem dX5_goThroughSecondPairs_104 : decode cX5_goThroughSecondPairs 104 = .ok (.i2l, 1) := by decide +kernel
theorem dX5_goThroughSecondPairs_105 : decode cX5_goThroughSecondPairs 105 = .ok (.aload_n 1, 1) := by decide +kernel
theorem dX5_goThroughSecondPairs_106 : decode cX5_goThroughSecondPairs 106 = .ok (.iload 7, 2) := by decide +kernel
theorem dX5_goThroughSecondPairs_108 : decode cX5_goThroughSecondPairs 108 = .ok (.invokevirtual 27, 3) := by decide +kernel
theorem dX5_goThroughSecondPairs_111 : decode cX5_goThroughSecondPairs 111 = .ok (.i2l, 1) := by decide +kernel
theorem dX5_goThroughSecondPairs_112 : decode cX5_goThroughSecondPairs 112 = .ok (.lmul, 1) := by decide +kernel
theorem dX5_goThroughSecondPairs_113 : decode cX5_goThroughSecondPairs 113 = .ok (.iconst 2, 1) := by decide +kernel
theorem dX5_goThroughSecondPairs_114 : decode cX5_goThroughSecondPairs 114 = .ok (.iconst 4, 1) := by decide +kernel
theorem dX5_goThroughSecondPairs_115 : decode cX5_goThroughSecondPairs 115 = .ok (.invokevirtual 31, 3) := by decide +kernel
theorem dX5_goThroughSecondPairs_118 : decode cX5_goThroughSecondPairs 118 = .ok (.iinc 7 1, 3) := by decide +kernel
theorem dX5_goThroughSecondPairs_121 : decode cX5_goThroughSecondPairs 121 = .ok (.goto (-63), 3) := by decide +kernel
theorem dX5_goThroughSecondPairs_124 : decode cX5_goThroughSecondPairs 124 = .ok (.iinc 4 1, 3) := by decide +kernel
theorem dX5_goThroughSecondPairs_127 : decode cX5_goThroughSecondPairs 127 = .ok (.goto (-108), 3) := by decide +kernel
theorem dX5_goThroughSecondPairs_130 : decode cX5_goThroughSecondPairs 130 = .ok (.return_, 1) := by decide +kernel
theorem dX5_keepTried_0 : decode cX5_keepTried 0 = .ok (.aload_n 0, 1) := by decide +kernel
theorem dX5_keepTried_1 : decode cX5_keepTried 1 = .ok (.iload_n 1, 1) := by decide +kernel
theorem dX5_keepTried_2 : decode cX5_keepTried 2 = .ok (.putfield 18, 3) := by decide +kernel
theorem dX5_keepTried_5 : decode cX5_keepTried 5 = .ok (.aload_n 0, 1) := by decide +kernel
theorem dX5_keepTried_6 : decode cX5_keepTried 6 = .ok (.getfield 9, 3) := by decide +kernel
theorem dX5_keepTried_9 : decode cX5_keepTried 9 = .ok (.iconst 0, 1) := by decide +kernel
theorem dX5_keepTried_10 : decode cX5_keepTried 10 = .ok (.aload_n 0, 1) := by decide +kernel
theorem dX5_keepTried_11 : decode cX5_keepTried 11 = .ok (.getfield 15, 3) := by decide +kernel
theorem dX5_keepTried_14 : decode cX5_keepTried 14 = .ok (.iconst 0, 1) := by decide +kernel
theorem dX5_keepTried_15 : decode cX5_keepTried 15 = .ok (.iconst 4, 1) := by decide +kernel
theorem dX5_keepTried_16 : decode cX5_keepTried 16 = .ok (.invokestatic 39, 3) := by decide +kernel
theorem dX5_keepTried_19 : decode cX5_keepTried 19 = .ok (.return_, 1) := by decide +kernel
theorem dX5_bestWheel_0 : decode cX5_bestWheel 0 = .ok (.iload_n 1, 1) := by decide +kernel
theorem dX5_bestWheel_1 : decode cX5_bestWheel 1 = .ok (.ifCond .lt 31, 3) := by decide +kernel
theorem dX5_bestWheel_4 : decode cX5_bestWheel 4 = .ok (.iload_n 1, 1) := by decide +kernel
theorem dX5_bestWheel_5 : decode cX5_bestWheel 5 = .ok (.iconst 2, 1) := by decide +kernel
theorem dX5_bestWheel_6 : decode cX5_bestWheel 6 = .ok (.aload_n 0, 1) := by decide +kernel
theorem dX5_bestWheel_7 : decode cX5_bestWheel 7 = .ok (.getfield 18, 3) := by decide +kernel
theorem dX5_bestWheel_10 : decode cX5_bestWheel 10 = .ok (.imul, 1) := by decide +kernel
theorem dX5_bestWheel_11 : decode cX5_bestWheel 11 = .ok (.if_icmp .ge 21, 3) := by decide +kernel
theorem dX5_bestWheel_14 : decode cX5_bestWheel 14 = .ok (.iload_n 1, 1) := by decide +kernel
theorem dX5_bestWheel_15 : decode cX5_bestWheel 15 = .ok (.aload_n 0, 1) := by decide +kernel
theorem dX5_bestWheel_16 : decode cX5_bestWheel 16 = .ok (.getfield 15, 3) := by decide +kernel
theorem dX5_bestWheel_19 : decode cX5_bestWheel 19 = .ok (.arraylength, 1) := by decide +kernel
theorem dX5_bestWheel_20 : decode cX5_bestWheel 20 = .ok (.if_icmp .ge 12, 3) := by decide +kernel
theorem dX5_bestWheel_23 : decode cX5_bestWheel 23 = .ok (.aload_n 0, 1) := by decide +kernel
theorem dX5_bestWheel_24 : decode cX5_bestWheel 24 = .ok (.getfield 15, 3) := by decide +kernel
theorem dX5_bestWheel_27 : decode cX5_bestWheel 27 = .ok (.iload_n 1, 1) := by decide +kernel
theorem dX5_bestWheel_28 : decode cX5_bestWheel 28 = .ok (.iaload, 1) := by decide +kernel
theorem dX5_bestWheel_29 : decode cX5_bestWheel 29 = .ok (.goto 4, 3) := by decide +kernel
theorem dX5_bestWheel_32 : decode cX5_bestWheel 32 = .ok (.iconst (-1), 1) := by decide +kernel
theorem dX5_bestWheel_33 : decode cX5_bestWheel 33 = .ok (.ireturn, 1) := by decide +kernel
theorem dX6_init_0 : decode cX6_init 0 = .ok (.aload_n 0, 1) := by decide +kernel
theorem dX6_init_1 : decode cX6_init 1 = .ok (.invokespecial 3, 3) := by decide +kernel
theorem dX6_init_4 : decode cX6_init 4 = .ok (.aload_n 0, 1) := by decide +kernel
theorem dX6_init_5 : decode cX6_init 5 = .ok (.iconst 1, 1) := by decide +kernel
theorem dX6_init_6 : decode cX6_init 6 = .ok (.putfield 9, 3) := by decide +kernel
theorem dX6_init_9 : decode cX6_init 9 = .ok (.aload_n 0, 1) := by decide +kernel
theorem dX6_init_10 : decode cX6_init 10 = .ok (.iconst 1, 1) := by decide +kernel
theorem dX6_init_11 : decode cX6_init 11 = .ok (.putfield 15, 3) := by decide +kernel
theorem dX6_init_14 : decode cX6_init 14 = .ok (.aload_n 0, 1) := by decide +kernel
theorem dX6_init_15 : decode cX6_init 15 = .ok (.iconst 0, 1) := by decide +kernel
theorem dX6_init_16 : decode cX6_init 16 = .ok (.putfield 18, 3) := by decide +kernel
theorem dX6_init_19 : decode cX6_init 19 = .ok (.aload_n 0, 1) := by decide +kernel
theorem dX6_init_20 : decode cX6_init 20 = .ok (.iconst 4, 1) := by decide +kernel
theorem dX6_init_21 : decode cX6_init 21 = .ok (.newarray .int, 2) := by decide +kernel
theorem dX6_init_23 : decode cX6_init 23 = .ok (.putfield 21, 3) := by decide +kernel
theorem dX6_init_26 : decode cX6_init 26 = .ok (.aload_n 0, 1) := by decide +kernel
theorem dX6_init_27 : decode cX6_init 27 = .ok (.iconst 4, 1) := by decide +kernel
theorem dX6_init_28 : decode cX6_init 28 = .ok (.newarray .int, 2) := by decide +kernel
theorem dX6_init_30 : decode cX6_init 30 = .ok (.putfield 25, 3) := by decide +kernel
theorem dX6_init_33 : decode cX6_init 33 = .ok (.aload_n 0, 1) := by decide +kernel
theorem dX6_init_34 : decode cX6_init 34 = .ok (.iconst 4, 1) := by decide +kernel
theorem dX6_init_35 : decode cX6_init 35 = .ok (.newarray .int, 2) := by decide +kernel
theorem dX6_init_37 : decode cX6_init 37 = .ok (.putfield 28, 3) := by decide +kernel
theorem dX6_init_40 : decode cX6_init 40 = .ok (.aload_n 0, 1) := by decide +kernel
theorem dX6_init_41 : decode cX6_init 41 = .ok (.iconst 0, 1) := by decide +kernel
theorem dX6_init_42 : decode cX6_init 42 = .ok (.putfield 31, 3) := by decide +kernel
theorem dX6_init_45 : decode cX6_init 45 = .ok (.aload_n 0, 1) := by decide +kernel
theorem dX6_init_46 : decode cX6_init 46 = .ok (.iconst 0, 1) := by decide +kernel
theorem dX6_init_47 : decode cX6_init 47 = .ok (.newarray .int, 2) := by decide +kernel
theorem dX6_init_49 : decode cX6_init 49 = .ok (.putfield 34, 3) := by decide +kernel
theorem dX6_init_52 : decode cX6_init 52 = .ok (.aload_n 0, 1) := by decide +kernel
theorem dX6_init_53 : decode cX6_init 53 = .ok (.iconst 0, 1) := by decide +kernel
theorem dX6_init_54 : decode cX6_init 54 = .ok (.putfield 37, 3) := by decide +kernel
theorem dX6_init_57 : decode cX6_init 57 = .ok (.return_, 1) := by decide +kernel
theorem dX6_begin_0 : decode cX6_begin 0 = .ok (.aload_n 0, 1) := by decide +kernel
theorem dX6_begin_1 : decode cX6_begin 1 = .ok (.iconst 1, 1) := by decide +kernel
theorem dX6_begin_2 : decode cX6_begin 2 = .ok (.iload_n 1, 1) := by decide +kernel
theorem dX6_begin_3 : decode cX6_begin 3 = .ok (.sipush 400, 3) := by decide +kernel
theorem dX6_begin_6 : decode cX6_begin 6 = .ok (.invokestatic 40, 3) := by decide +kernel
theorem dX6_begin_9 : decode cX6_begin 9 = .ok (.invokestatic 46, 3) := by decide +kernel
theorem dX6_begin_12 : decode cX6_begin 12 = .ok (.putfield 9, 3) := by decide +kernel
theorem dX6_begin_15 : decode cX6_begin 15 = .ok (.aload_n 0, 1) := by decide +kernel
theorem dX6_begin_16 : decode cX6_begin 16 = .ok (.iconst 1, 1) := by decide +kernel
theorem dX6_begin_17 : decode cX6_begin 17 = .ok (.iload_n 2, 1) := by decide +kernel
theorem dX6_begin_18 : decode cX6_begin 18 = .ok (.sipush 400, 3) := by decide +kernel
theorem dX6_begin_21 : decode cX6_begin 21 = .ok (.invokestatic 40, 3) := by decide +kernel
theorem dX6_begin_24 : decode cX6_begin 24 = .ok (.invokestatic 46, 3) := by decide +kernel
theorem dX6_begin_27 : decode cX6_begin 27 = .ok (.putfield 15, 3) := by decide +kernel
theorem dX6_begin_30 : decode cX6_begin 30 = .ok (.aload_n 0, 1) := by decide +kernel
theorem dX6_begin_31 : decode cX6_begin 31 = .ok (.iconst 0, 1) := by decide +kernel
theorem dX6_begin_32 : decode cX6_begin 32 = .ok (.putfield 18, 3) := by decide +kernel
theorem dX6_begin_35 : decode cX6_begin 35 = .ok (.aload_n 0, 1) := by decide +kernel
theorem dX6_begin_36 : decode cX6_begin 36 = .ok (.getfield 9, 3) := by decide +kernel
theorem dX6_begin_39 : decode cX6_begin 39 = .ok (.aload_n 0, 1) := by decide +kernel
theorem dX6_begin_40 : decode cX6_begin 40 = .ok (.getfield 15, 3) := by decide +kernel
theorem dX6_begin_43 : decode cX6_begin 43 = .ok (.imul, 1) := by decide +kernel
theorem dX6_begin_44 : decode cX6_begin 44 = .ok (.istore_n 3, 1) := by decide +kernel
theorem dX6_begin_45 : decode cX6_begin 45 = .ok (.aload_n 0, 1) := by decide +kernel
theorem dX6_begin_46 : decode cX6_begin 46 = .ok (.getfield 34, 3) := by decide +kernel
theorem dX6_begin_49 : decode cX6_begin 49 = .ok (.arraylength, 1) := by decide +kernel
theorem dX6_begin_50 : decode cX6_begin 50 = .ok (.iload_n 3, 1) := by decide +kernel
theorem dX6_begin_51 : decode cX6_begin 51 = .ok (.if_icmp .ge 35, 3) := by decide +kernel
theorem dX6_begin_54 : decode cX6_begin 54 = .ok (.ldc 49, 2) := by decide +kernel
theorem dX6_begin_56 : decode cX6_begin 56 = .ok (.sipush 256, 3) := by decide +kernel
theorem dX6_begin_59 : decode cX6_begin 59 = .ok (.iconst 2, 1) := by decide +kernel
theorem dX6_begin_60 : decode cX6_begin 60 = .ok (.aload_n 0, 1) := by decide +kernel
theorem dX6_begin_61 : decode cX6_begin 61 = .ok (.getfield 34, 3) := by decide +kernel
theorem dX6_begin_64 : decode cX6_begin 64 = .ok (.arraylength, 1) := by decide +kernel
theorem dX6_begin_65 : decode cX6_begin 65 = .ok (.imul, 1) := by decide +kernel
theorem dX6_begin_66 : decode cX6_begin 66 = .ok (.invokestatic 46, 3) := by decide +kernel
theorem dX6_begin_69 : decode cX6_begin 69 = .ok (.invokestatic 40, 3) := by decide +kernel
theorem dX6_begin_72 : decode cX6_begin 72 = .ok (.istore 4, 2) := by decide +kernel
theorem dX6_begin_74 : decode cX6_begin 74 = .ok (.aload_n 0, 1) := by decide +kernel
theorem dX6_begin_75 : decode cX6_begin 75 = .ok (.iload_n 3, 1) := by decide +kernel
theorem dX6_begin_76 : decode cX6_begin 76 = .ok (.iload 4, 2) := by decide +kernel
theorem dX6_begin_78 : decode cX6_begin 78 = .ok (.invokestatic 46, 3) := by decide +kernel
theorem dX6_begin_81 : decode cX6_begin 81 = .ok (.newarray .int, 2) := by decide +kernel
theorem dX6_begin_83 : decode cX6_begin 83 = .ok (.putfield 34, 3) := by decide +kernel
theorem dX6_begin_86 : decode cX6_begin 86 = .ok (.iconst 0, 1) := by decide +kernel
theorem dX6_begin_87 : decode cX6_begin 87 = .ok (.istore 4, 2) := by decide +kernel
theorem dX6_begin_89 : decode cX6_begin 89 = .ok (.iload 4, 2) := by decide +kernel
theorem dX6_begin_91 : decode cX6_begin 91 = .ok (.iload_n 3, 1) := by decide +kernel
theorem dX6_begin_92 : decode cX6_begin 92 = .ok (.if_icmp .ge 27, 3) := by decide +kernel
theorem dX6_begin_95 : decode cX6_begin 95 = .ok (.iload 4, 2) := by decide +kernel
theorem dX6_begin_97 : decode cX6_begin 97 = .ok (.aload_n 0, 1) := by decide +kernel
theorem dX6_begin_98 : decode cX6_begin 98 = .ok (.getfield 34, 3) := by decide +kernel
theorem dX6_begin_101 : decode cX6_begin 101 = .ok (.arraylength, 1) := by decide +kernel
theorem dX6_begin_102 : decode cX6_begin 102 = .ok (.if_icmp .ge 17, 3) := by decide +kernel
theorem dX6_begin_105 : decode cX6_begin 105 = .ok (.aload_n 0, 1) := by decide +kernel
theorem dX6_begin_106 : decode cX6_begin 106 = .ok (.getfield 34, 3) := by decide +kernel
theorem dX6_begin_109 : decode cX6_begin 109 = .ok (.iload 4, 2) := by decide +kernel
theorem dX6_begin_111 : decode cX6_begin 111 = .ok (.iconst 0, 1) := by decide +kernel
theorem dX6_begin_112 : decode cX6_begin 112 = .ok (.iastore, 1) := by decide +kernel
theorem dX6_begin_113 : decode cX6_begin 113 = .ok (.iinc 4 1, 3) := by decide +kernel
theorem dX6_begin_116 : decode cX6_begin 116 = .ok (.goto (-27), 3) := by decide +kernel
theorem dX6_begin_119 : decode cX6_begin 119 = .ok (.return_, 1) := by decide +kernel
theorem dX6_addKnob_0 : decode cX6_addKnob 0 = .ok (.aload_n 0, 1) := by decide +kernel
theorem dX6_addKnob_1 : decode cX6_addKnob 1 = .ok (.getfield 18, 3) := by decide +kernel
theorem dX6_addKnob_4 : decode cX6_addKnob 4 = .ok (.ifCond .lt 55, 3) := by decide +kernel
theorem dX6_addKnob_7 : decode cX6_addKnob 7 = .ok (.aload_n 0, 1) := by decide +kernel
theorem dX6_addKnob_8 : decode cX6_addKnob 8 = .ok (.getfield 18, 3) := by decide +kernel
theorem dX6_addKnob_11 : decode cX6_addKnob 11 = .ok (.iconst 4, 1) := by decide +kernel
theorem dX6_addKnob_12 : decode cX6_addKnob 12 = .ok (.if_icmp .ge 47, 3) := by decide +kernel
theorem dX6_addKnob_15 : decode cX6_addKnob 15 = .ok (.aload_n 0, 1) := by decide +kernel
theorem dX6_addKnob_16 : decode cX6_addKnob 16 = .ok (.getfield 21, 3) := by decide +kernel
theorem dX6_addKnob_19 : decode cX6_addKnob 19 = .ok (.aload_n 0, 1) := by decide +kernel
theorem dX6_addKnob_20 : decode cX6_addKnob 20 = .ok (.getfield 18, 3) := by decide +kernel
theorem dX6_addKnob_23 : decode cX6_addKnob 23 = .ok (.iload_n 1, 1) := by decide +kernel
theorem dX6_addKnob_24 : decode cX6_addKnob 24 = .ok (.aload_n 0, 1) := by decide +kernel
theorem dX6_addKnob_25 : decode cX6_addKnob 25 = .ok (.getfield 9, 3) := by decide +kernel
theorem dX6_addKnob_28 : decode cX6_addKnob 28 = .ok (.invokestatic 50, 3) := by decide +kernel
theorem dX6_addKnob_31 : decode cX6_addKnob 31 = .ok (.iastore, 1) := by decide +kernel
theorem dX6_addKnob_32 : decode cX6_addKnob 32 = .ok (.aload_n 0, 1) := by decide +kernel
theorem dX6_addKnob_33 : decode cX6_addKnob 33 = .ok (.getfield 25, 3) := by decide +kernel
theorem dX6_addKnob_36 : decode cX6_addKnob 36 = .ok (.aload_n 0, 1) := by decide +kernel
theorem dX6_addKnob_37 : decode cX6_addKnob 37 = .ok (.getfield 18, 3) := by decide +kernel
theorem dX6_addKnob_40 : decode cX6_addKnob 40 = .ok (.iload_n 2, 1) := by decide +kernel
theorem dX6_addKnob_41 : decode cX6_addKnob 41 = .ok (.aload_n 0, 1) := by decide +kernel
theorem dX6_addKnob_42 : decode cX6_addKnob 42 = .ok (.getfield 15, 3) := by decide +kernel
theorem dX6_addKnob_45 : decode cX6_addKnob 45 = .ok (.invokestatic 50, 3) := by decide +kernel
theorem dX6_addKnob_48 : decode cX6_addKnob 48 = .ok (.iastore, 1) := by decide +kernel
theorem dX6_addKnob_49 : decode cX6_addKnob 49 = .ok (.aload_n 0, 1) := by decide +kernel
theorem dX6_addKnob_50 : decode cX6_addKnob 50 = .ok (.dup, 1) := by decide +kernel
theorem dX6_addKnob_51 : decode cX6_addKnob 51 = .ok (.getfield 18, 3) := by decide +kernel
theorem dX6_addKnob_54 : decode cX6_addKnob 54 = .ok (.iconst 1, 1) := by decide +kernel
theorem dX6_addKnob_55 : decode cX6_addKnob 55 = .ok (.iadd, 1) := by decide +kernel
theorem dX6_addKnob_56 : decode cX6_addKnob 56 = .ok (.putfield 18, 3) := by decide +kernel
theorem dX6_addKnob_59 : decode cX6_addKnob 59 = .ok (.return_, 1) := by decide +kernel
theorem dX6_reaches_0 : decode cX6_reaches 0 = .ok (.iload_n 1, 1) := by decide +kernel
theorem dX6_reaches_1 : decode cX6_reaches 1 = .ok (.aload_n 0, 1) := by decide +kernel
theorem dX6_reaches_2 : decode cX6_reaches 2 = .ok (.getfield 9, 3) := by decide +kernel
theorem dX6_reaches_5 : decode cX6_reaches 5 = .ok (.invokestatic 50, 3) := by decide +kernel
theorem dX6_reaches_8 : decode cX6_reaches 8 = .ok (.aload_n 0, 1) := by decide +kernel
theorem dX6_reaches_9 : decode cX6_reaches 9 = .ok (.getfield 15, 3) := by decide +kernel
theorem dX6_reaches_12 : decode cX6_reaches 12 = .ok (.imul, 1) := by decide +kernel
theorem dX6_reaches_13 : decode cX6_reaches 13 = .ok (.iload_n 2, 1) := by decide +kernel
theorem dX6_reaches_14 : decode cX6_reaches 14 = .ok (.aload_n 0, 1) := by decide +kernel
theorem dX6_reaches_15 : decode cX6_reaches 15 = .ok (.getfield 15, 3) := by decide +kernel
theorem dX6_reaches_18 : decode cX6_reaches 18 = .ok (.invokestatic 50, 3) := by decide +kernel
theorem dX6_reaches_21 : decode cX6_reaches 21 = .ok (.iadd, 1) := by decide +kernel
theorem dX6_reaches_22 : decode cX6_reaches 22 = .ok (.istore_n 3, 1) := by decide +kernel
theorem dX6_reaches_23 : decode cX6_reaches 23 = .ok (.aload_n 0, 1) := by decide +kernel
theorem dX6_reaches_24 : decode cX6_reaches 24 = .ok (.getfield 9, 3) := by decide +kernel
theorem dX6_reaches_27 : decode cX6_reaches 27 = .ok (.aload_n 0, 1) := by decide +kernel
theorem dX6_reaches_28 : decode cX6_reaches 28 = .ok (.getfield 15, 3) := by decide +kernel
theorem dX6_reaches_31 : decode cX6_reaches 31 = .ok (.imul, 1) := by decide +kernel
theorem dX6_reaches_32 : decode cX6_reaches 32 = .ok (.istore 4, 2) := by decide +kernel
theorem dX6_reaches_34 : decode cX6_reaches 34 = .ok (.aload_n 0, 1) := by decide +kernel
theorem dX6_reaches_35 : decode cX6_reaches 35 = .ok (.iconst 0, 1) := by decide +kernel
theorem dX6_reaches_36 : decode cX6_reaches 36 = .ok (.putfield 37, 3) := by decide +kernel
theorem dX6_reaches_39 : decode cX6_reaches 39 = .ok (.aload_n 0, 1) := by decide +kernel
theorem dX6_reaches_40 : decode cX6_reaches 40 = .ok (.iconst 0, 1) := by decide +kernel
theorem dX6_reaches_41 : decode cX6_reaches 41 = .ok (.iconst 1, 1) := by decide +kernel
theorem dX6_reaches_42 : decode cX6_reaches 42 = .ok (.invokevirtual 53, 3) := by decide +kernel
theorem dX6_reaches_45 : decode cX6_reaches 45 = .ok (.iconst 0, 1) := by decide +kernel
theorem dX6_reaches_46 : decode cX6_reaches 46 = .ok (.istore 5, 2) := by decide +kernel
theorem dX6_reaches_48 : decode cX6_reaches 48 = .ok (.iconst 0, 1) := by decide +kernel
theorem dX6_reaches_49 : decode cX6_reaches 49 = .ok (.istore 6, 2) := by decide +kernel
theorem dX6_reaches_51 : decode cX6_reaches 51 = .ok (.iload 6, 2) := by decide +kernel
theorem dX6_reaches_53 : decode cX6_reaches 53 = .ok (.iload 4, 2) := by decide +kernel
theorem dX6_reaches_55 : decode cX6_reaches 55 = .ok (.if_icmp .ge 41, 3) := by decide +kernel
theorem dX6_reaches_58 : decode cX6_reaches 58 = .ok (.iload 5, 2) := by decide +kernel
theorem dX6_reaches_60 : decode cX6_reaches 60 = .ok (.iconst (-1), 1) := by decide +kernel
theorem dX6_reaches_61 : decode cX6_reaches 61 = .ok (.if_icmp .eq 35, 3) := by decide +kernel
theorem dX6_reaches_64 : decode cX6_reaches 64 = .ok (.aload_n 0, 1) := by decide +kernel
theorem dX6_reaches_65 : decode cX6_reaches 65 = .ok (.iload_n 3, 1) := by decide +kernel
theorem dX6_reaches_66 : decode cX6_reaches 66 = .ok (.invokevirtual 57, 3) := by decide +kernel
theorem dX6_reaches_69 : decode cX6_reaches 69 = .ok (.ifCond .ne 27, 3) := by decide +kernel
theorem dX6_reaches_72 : decode cX6_reaches 72 = .ok (.aload_n 0, 1) := by decide +kernel
theorem dX6_reaches_73 : decode cX6_reaches 73 = .ok (.iload 5, 2) := by decide +kernel
theorem dX6_reaches_75 : decode cX6_reaches 75 = .ok (.invokevirtual 61, 3) := by decide +kernel
theorem dX6_reaches_78 : decode cX6_reaches 78 = .ok (.aload_n 0, 1) := by decide +kernel
theorem dX6_reaches_79 : decode cX6_reaches 79 = .ok (.iload 5, 2) := by decide +kernel
theorem dX6_reaches_81 : decode cX6_reaches 81 = .ok (.invokevirtual 65, 3) := by decide +kernel
theorem dX6_reaches_84 : decode cX6_reaches 84 = .ok (.iconst 3, 1) := by decide +kernel
theorem dX6_reaches_85 : decode cX6_reaches 85 = .ok (.ishr, 1) := by decide +kernel
theorem dX6_reaches_86 : decode cX6_reaches 86 = .ok (.iconst 1, 1) := by decide +kernel
theorem dX6_reaches_87 : decode cX6_reaches 87 = .ok (.isub, 1) := by decide +kernel
theorem dX6_reaches_88 : decode cX6_reaches 88 = .ok (.istore 5, 2) := by decide +kernel
theorem dX6_reaches_90 : decode cX6_reaches 90 = .ok (.iinc 6 1, 3) := by decide +kernel
theorem dX6_reaches_93 : decode cX6_reaches 93 = .ok (.goto (-42), 3) := by decide +kernel
theorem dX6_reaches_96 : decode cX6_reaches 96 = .ok (.aload_n 0, 1) := by decide +kernel
theorem dX6_reaches_97 : decode cX6_reaches 97 = .ok (.iload_n 3, 1) := by decide +kernel
theorem dX6_reaches_98 : decode cX6_reaches 98 = .ok (.invokevirtual 57, 3) := by decide +kernel
theorem dX6_reaches_101 : decode cX6_reaches 101 = .ok (.ifCond .eq 15, 3) := by decide +kernel
theorem dX6_reaches_104 : decode cX6_reaches 104 = .ok (.aload_n 0, 1) := by decide +kernel
theorem dX6_reaches_105 : decode cX6_reaches 105 = .ok (.iload_n 3, 1) := by decide +kernel
theorem dX6_reaches_106 : decode cX6_reaches 106 = .ok (.invokevirtual 69, 3) := by decide +kernel
theorem dX6_reaches_109 : decode cX6_reaches 109 = .ok (.ifCond .eq 7, 3) := by decide +kernel
theorem dX6_reaches_112 : decode cX6_reaches 112 = .ok (.iconst 1, 1) := by decide +kernel
theorem dX6_reaches_113 : decode cX6_reaches 113 = .ok (.goto 4, 3) := by decide +kernel
theorem dX6_reaches_116 : decode cX6_reaches 116 = .ok (.iconst 0, 1) := by decide +kernel
theorem dX6_reaches_117 : decode cX6_reaches 117 = .ok (.ireturn, 1) := by decide +kernel
theorem dX6_goOnFrom_0 : decode cX6_goOnFrom 0 = .ok (.iconst 0, 1) := by decide +kernel
theorem dX6_goOnFrom_1 : decode cX6_goOnFrom 1 = .ok (.aload_n 0, 1) := by decide +kernel
theorem dX6_goOnFrom_2 : decode cX6_goOnFrom 2 = .ok (.iload_n 1, 1) := by decide +kernel
theorem dX6_goOnFrom_3 : decode cX6_goOnFrom 3 = .ok (.invokevirtual 72, 3) := by decide +kernel
theorem dX6_goOnFrom_6 : decode cX6_goOnFrom 6 = .ok (.invokestatic 46, 3) := by decide +kernel
theorem dX6_goOnFrom_9 : decode cX6_goOnFrom 9 = .ok (.istore_n 2, 1) := by decide +kernel
theorem dX6_goOnFrom_10 : decode cX6_goOnFrom 10 = .ok (.iload_n 1, 1) := by decide +kernel
theorem dX6_goOnFrom_11 : decode cX6_goOnFrom 11 = .ok (.i2l, 1) := by decide +kernel
theorem dX6_goOnFrom_12 : decode cX6_goOnFrom 12 = .ok (.aload_n 0, 1) := by decide +kernel
theorem dX6_goOnFrom_13 : decode cX6_goOnFrom 13 = .ok (.getfield 15, 3) := by decide +kernel
theorem dX6_goOnFrom_16 : decode cX6_goOnFrom 16 = .ok (.i2l, 1) := by decide +kernel
theorem dX6_goOnFrom_17 : decode cX6_goOnFrom 17 = .ok (.invokestatic 75, 3) := by decide +kernel
theorem dX6_goOnFrom_20 : decode cX6_goOnFrom 20 = .ok (.l2i, 1) := by decide +kernel
theorem dX6_goOnFrom_21 : decode cX6_goOnFrom 21 = .ok (.istore_n 3, 1) := by decide +kernel
theorem dX6_goOnFrom_22 : decode cX6_goOnFrom 22 = .ok (.iload_n 1, 1) := by decide +kernel
theorem dX6_goOnFrom_23 : decode cX6_goOnFrom 23 = .ok (.iload_n 3, 1) := by decide +kernel
theorem dX6_goOnFrom_24 : decode cX6_goOnFrom 24 = .ok (.aload_n 0, 1) := by decide +kernel
theorem dX6_goOnFrom_25 : decode cX6_goOnFrom 25 = .ok (.getfield 15, 3) := by decide +kernel
theorem dX6_goOnFrom_28 : decode cX6_goOnFrom 28 = .ok (.imul, 1) := by decide +kernel
theorem dX6_goOnFrom_29 : decode cX6_goOnFrom 29 = .ok (.isub, 1) := by decide +kernel
theorem dX6_goOnFrom_30 : decode cX6_goOnFrom 30 = .ok (.istore 4, 2) := by decide +kernel
theorem dX6_goOnFrom_32 : decode cX6_goOnFrom 32 = .ok (.aload_n 0, 1) := by decide +kernel
theorem dX6_goOnFrom_33 : decode cX6_goOnFrom 33 = .ok (.getfield 18, 3) := by decide +kernel
theorem dX6_goOnFrom_36 : decode cX6_goOnFrom 36 = .ok (.iconst 4, 1) := by decide +kernel
theorem dX6_goOnFrom_37 : decode cX6_goOnFrom 37 = .ok (.invokestatic 40, 3) := by decide +kernel
theorem dX6_goOnFrom_40 : decode cX6_goOnFrom 40 = .ok (.iconst 1, 1) := by decide +kernel
theorem dX6_goOnFrom_41 : decode cX6_goOnFrom 41 = .ok (.isub, 1) := by decide +kernel
theorem dX6_goOnFrom_42 : decode cX6_goOnFrom 42 = .ok (.istore 5, 2) := by decide +kernel
theorem dX6_goOnFrom_44 : decode cX6_goOnFrom 44 = .ok (.iload 5, 2) := by decide +kernel
theorem dX6_goOnFrom_46 : decode cX6_goOnFrom 46 = .ok (.iload_n 2, 1) := by decide +kernel
theorem dX6_goOnFrom_47 : decode cX6_goOnFrom 47 = .ok (.if_icmp .lt 90, 3) := by decide +kernel
theorem dX6_goOnFrom_50 : decode cX6_goOnFrom 50 = .ok (.aload_n 0, 1) := by decide +kernel
theorem dX6_goOnFrom_51 : decode cX6_goOnFrom 51 = .ok (.iload_n 3, 1) := by decide +kernel
theorem dX6_goOnFrom_52 : decode cX6_goOnFrom 52 = .ok (.aload_n 0, 1) := by decide +kernel
theorem dX6_goOnFrom_53 : decode cX6_goOnFrom 53 = .ok (.getfield 21, 3) := by decide +kernel
theorem dX6_goOnFrom_56 : decode cX6_goOnFrom 56 = .ok (.iload 5, 2) := by decide +kernel
theorem dX6_goOnFrom_58 : decode cX6_goOnFrom 58 = .ok (.iaload, 1) := by decide +kernel
theorem dX6_goOnFrom_59 : decode cX6_goOnFrom 59 = .ok (.iadd, 1) := by decide +kernel
theorem dX6_goOnFrom_60 : decode cX6_goOnFrom 60 = .ok (.iload 4, 2) := by decide +kernel
theorem dX6_goOnFrom_62 : decode cX6_goOnFrom 62 = .ok (.aload_n 0, 1) := by decide +kernel
theorem dX6_goOnFrom_63 : decode cX6_goOnFrom 63 = .ok (.getfield 25, 3) := by decide +kernel
theorem dX6_goOnFrom_66 : decode cX6_goOnFrom 66 = .ok (.iload 5, 2) := by decide +kernel
theorem dX6_goOnFrom_68 : decode cX6_goOnFrom 68 = .ok (.iaload, 1) := by decide +kernel
theorem dX6_goOnFrom_69 : decode cX6_goOnFrom 69 = .ok (.iadd, 1) := by decide +kernel
theorem dX6_goOnFrom_70 : decode cX6_goOnFrom 70 = .ok (.invokevirtual 79, 3) := by decide +kernel
theorem dX6_goOnFrom_73 : decode cX6_goOnFrom 73 = .ok (.istore 6, 2) := by decide +kernel
theorem dX6_goOnFrom_75 : decode cX6_goOnFrom 75 = .ok (.iload 6, 2) := by decide +kernel
theorem dX6_goOnFrom_77 : decode cX6_goOnFrom 77 = .ok (.ifCond .lt 54, 3) := by decide +kernel
theorem dX6_goOnFrom_80 : decode cX6_goOnFrom 80 = .ok (.iload 6, 2) := by decide +kernel
theorem dX6_goOnFrom_82 : decode cX6_goOnFrom 82 = .ok (.aload_n 0, 1) := by decide +kernel
theorem dX6_goOnFrom_83 : decode cX6_goOnFrom 83 = .ok (.getfield 34, 3) := by decide +kernel
theorem dX6_goOnFrom_86 : decode cX6_goOnFrom 86 = .ok (.arraylength, 1) := by decide +kernel
theorem dX6_goOnFrom_87 : decode cX6_goOnFrom 87 = .ok (.if_icmp .ge 44, 3) := by decide +kernel
theorem dX6_goOnFrom_90 : decode cX6_goOnFrom 90 = .ok (.aload_n 0, 1) := by decide +kernel
theorem dX6_goOnFrom_91 : decode cX6_goOnFrom 91 = .ok (.getfield 34, 3) := by decide +kernel
theorem dX6_goOnFrom_94 : decode cX6_goOnFrom 94 = .ok (.iload 6, 2) := by decide +kernel
theorem dX6_goOnFrom_96 : decode cX6_goOnFrom 96 = .ok (.iaload, 1) := by decide +kernel
theorem dX6_goOnFrom_97 : decode cX6_goOnFrom 97 = .ok (.ifCond .ne 34, 3) := by decide +kernel
theorem dX6_goOnFrom_100 : decode cX6_goOnFrom 100 = .ok (.aload_n 0, 1) := by decide +kernel
theorem dX6_goOnFrom_101 : decode cX6_goOnFrom 101 = .ok (.getfield 34, 3) := by decide +kernel
theorem dX6_goOnFrom_104 : decode cX6_goOnFrom 104 = .ok (.iload 6, 2) := by decide +kernel
theorem dX6_goOnFrom_106 : decode cX6_goOnFrom 106 = .ok (.iload 5, 2) := by decide +kernel
theorem dX6_goOnFrom_108 : decode cX6_goOnFrom 108 = .ok (.iconst 1, 1) := by decide +kernel
theorem dX6_goOnFrom_109 : decode cX6_goOnFrom 109 = .ok (.iadd, 1) := by decide +kernel
theorem dX6_goOnFrom_110 : decode cX6_goOnFrom 110 = .ok (.iastore, 1) := by decide +kernel
theorem dX6_goOnFrom_111 : decode cX6_goOnFrom 111 = .ok (.aload_n 0, 1) := by decide +kernel
theorem dX6_goOnFrom_112 : decode cX6_goOnFrom 112 = .ok (.aload_n 0, 1) := by decide +kernel
theorem dX6_goOnFrom_113 : decode cX6_goOnFrom 113 = .ok (.getfield 37, 3) := by decide +kernel
theorem dX6_goOnFrom_116 : decode cX6_goOnFrom 116 = .ok (.iload 6, 2) := by decide +kernel
theorem dX6_goOnFrom_118 : decode cX6_goOnFrom 118 = .ok (.iconst 1, 1) := by decide +kernel
theorem dX6_goOnFrom_119 : decode cX6_goOnFrom 119 = .ok (.iadd, 1) := by decide +kernel
theorem dX6_goOnFrom_120 : decode cX6_goOnFrom 120 = .ok (.iconst 3, 1) := by decide +kernel
theorem dX6_goOnFrom_121 : decode cX6_goOnFrom 121 = .ok (.ishl, 1) := by decide +kernel
theorem dX6_goOnFrom_122 : decode cX6_goOnFrom 122 = .ok (.invokevirtual 53, 3) := by decide +kernel
theorem dX6_goOnFrom_125 : decode cX6_goOnFrom 125 = .ok (.aload_n 0, 1) := by decide +kernel
theorem dX6_goOnFrom_126 : decode cX6_goOnFrom 126 = .ok (.iload 6, 2) := by decide +kernel
theorem dX6_goOnFrom_128 : decode cX6_goOnFrom 128 = .ok (.putfield 37, 3) := by decide +kernel
theorem dX6_goOnFrom_131 : decode cX6_goOnFrom 131 = .ok (.iinc 5 (-1), 3) := by decide +kernel
theorem dX6_goOnFrom_134 : decode cX6_goOnFrom 134 = .ok (.goto (-90), 3) := by decide +kernel
theorem dX6_goOnFrom_137 : decode cX6_goOnFrom 137 = .ok (.return_, 1) := by decide +kernel
theorem dX6_countBack_0 : decode cX6_countBack 0 = .ok (.aload_n 0, 1) := by decide +kernel
theorem dX6_countBack_1 : decode cX6_countBack 1 = .ok (.iconst 0, 1) := by decide +kernel
theorem dX6_countBack_2 : decode cX6_countBack 2 = .ok (.putfield 31, 3) := by decide +kernel
theorem dX6_countBack_5 : decode cX6_countBack 5 = .ok (.iconst 0, 1) := by decide +kernel
theorem dX6_countBack_6 : decode cX6_countBack 6 = .ok (.istore_n 2, 1) := by decide +kernel
theorem dX6_countBack_7 : decode cX6_countBack 7 = .ok (.iload_n 2, 1) := by decide +kernel
theorem dX6_countBack_8 : decode cX6_countBack 8 = .ok (.iconst 4, 1) := by decide +kernel
theorem dX6_countBack_9 : decode cX6_countBack 9 = .ok (.if_icmp .ge 16, 3) := by decide +kernel
theorem dX6_countBack_12 : decode cX6_countBack 12 = .ok (.aload_n 0, 1) := by decide +kernel
theorem dX6_countBack_13 : decode cX6_countBack 13 = .ok (.getfield 28, 3) := by decide +kernel
theorem dX6_countBack_16 : decode cX6_countBack 16 = .ok (.iload_n 2, 1) := by decide +kernel
theorem dX6_countBack_17 : decode cX6_countBack 17 = .ok (.iconst 0, 1) := by decide +kernel
theorem dX6_countBack_18 : decode cX6_countBack 18 = .ok (.iastore, 1) := by decide +kernel
theorem dX6_countBack_19 : decode cX6_countBack 19 = .ok (.iinc 2 1, 3) := by decide +kernel
theorem dX6_countBack_22 : decode cX6_countBack 22 = .ok (.goto (-15), 3) := by decide +kernel
theorem dX6_countBack_25 : decode cX6_countBack 25 = .ok (.iload_n 1, 1) := by decide +kernel
theorem dX6_countBack_26 : decode cX6_countBack 26 = .ok (.istore_n 2, 1) := by decide +kernel
theorem dX6_countBack_27 : decode cX6_countBack 27 = .ok (.iconst 0, 1) := by decide +kernel
theorem dX6_countBack_28 : decode cX6_countBack 28 = .ok (.istore_n 3, 1) := by decide +kernel
theorem dX6_countBack_29 : decode cX6_countBack 29 = .ok (.iload_n 3, 1) := by decide +kernel
theorem dX6_countBack_30 : decode cX6_countBack 30 = .ok (.ldc 49, 2) := by decide +kernel
theorem dX6_countBack_32 : decode cX6_countBack 32 = .ok (.if_icmp .ge 109, 3) := by decide +kernel
theorem dX6_countBack_35 : decode cX6_countBack 35 = .ok (.iload_n 2, 1) := by decide +kernel
theorem dX6_countBack_36 : decode cX6_countBack 36 = .ok (.ifCond .eq 105, 3) := by decide +kernel
theorem dX6_countBack_39 : decode cX6_countBack 39 = .ok (.aload_n 0, 1) := by decide +kernel
theorem dX6_countBack_40 : decode cX6_countBack 40 = .ok (.iload_n 2, 1) := by decide +kernel
theorem dX6_countBack_41 : decode cX6_countBack 41 = .ok (.invokevirtual 72, 3) := by decide +kernel
theorem dX6_countBack_44 : decode cX6_countBack 44 = .ok (.istore 4, 2) := by decide +kernel
theorem dX6_countBack_46 : decode cX6_countBack 46 = .ok (.iload 4, 2) := by decide +kernel
theorem dX6_countBack_48 : decode cX6_countBack 48 = .ok (.ifCond .lt 9, 3) := by decide +kernel
theorem dX6_countBack_51 : decode cX6_countBack 51 = .ok (.iload 4, 2) := by decide +kernel
theorem dX6_countBack_53 : decode cX6_countBack 53 = .ok (.iconst 4, 1) := by decide +kernel
theorem dX6_countBack_54 : decode cX6_countBack 54 = .ok (.if_icmp .lt 5, 3) := by decide +kernel
theorem dX6_countBack_57 : decode cX6_countBack 57 = .ok (.iconst 0, 1) := by decide +kernel
theorem dX6_countBack_58 : decode cX6_countBack 58 = .ok (.ireturn, 1) := by decide +kernel
theorem dX6_countBack_59 : decode cX6_countBack 59 = .ok (.aload_n 0, 1) := by decide +kernel
theorem dX6_countBack_60 : decode cX6_countBack 60 = .ok (.getfield 28, 3) := by decide +kernel
theorem dX6_countBack_63 : decode cX6_countBack 63 = .ok (.iload 4, 2) := by decide +kernel
theorem dX6_countBack_65 : decode cX6_countBack 65 = .ok (.dup2, 1) := by decide +kernel
theorem dX6_countBack_66 : decode cX6_countBack 66 = .ok (.iaload, 1) := by decide +kernel
theorem dX6_countBack_67 : decode cX6_countBack 67 = .ok (.iconst 1, 1) := by decide +kernel
theorem dX6_countBack_68 : decode cX6_countBack 68 = .ok (.iadd, 1) := by decide +kernel
theorem dX6_countBack_69 : decode cX6_countBack 69 = .ok (.iastore, 1) := by decide +kernel
theorem dX6_countBack_70 : decode cX6_countBack 70 = .ok (.aload_n 0, 1) := by decide +kernel
theorem dX6_countBack_71 : decode cX6_countBack 71 = .ok (.dup, 1) := by decide +kernel
theorem dX6_countBack_72 : decode cX6_countBack 72 = .ok (.getfield 31, 3) := by decide +kernel
theorem dX6_countBack_75 : decode cX6_countBack 75 = .ok (.iconst 1, 1) := by decide +kernel
theorem dX6_countBack_76 : decode cX6_countBack 76 = .ok (.iadd, 1) := by decide +kernel
theorem dX6_countBack_77 : decode cX6_countBack 77 = .ok (.putfield 31, 3) := by decide +kernel
theorem dX6_countBack_80 : decode cX6_countBack 80 = .ok (.iload_n 2, 1) := by decide +kernel
theorem dX6_countBack_81 : decode cX6_countBack 81 = .ok (.i2l, 1) := by decide +kernel
theorem dX6_countBack_82 : decode cX6_countBack 82 = .ok (.aload_n 0, 1) := by decide +kernel
theorem dX6_countBack_83 : decode cX6_countBack 83 = .ok (.getfield 15, 3) := by decide +kernel
theorem dX6_countBack_86 : decode cX6_countBack 86 = .ok (.i2l, 1) := by decide +kernel
theorem dX6_countBack_87 : decode cX6_countBack 87 = .ok (.invokestatic 75, 3) := by decide +kernel
theorem dX6_countBack_90 : decode cX6_countBack 90 = .ok (.l2i, 1) := by decide +kernel
theorem dX6_countBack_91 : decode cX6_countBack 91 = .ok (.istore 5, 2) := by decide +kernel
theorem dX6_countBack_93 : decode cX6_countBack 93 = .ok (.aload_n 0, 1) := by decide +kernel
theorem dX6_countBack_94 : decode cX6_countBack 94 = .ok (.iload 5, 2) := by decide +kernel
theorem dX6_countBack_96 : decode cX6_countBack 96 = .ok (.aload_n 0, 1) := by decide +kernel
theorem dX6_countBack_97 : decode cX6_countBack 97 = .ok (.getfield 21, 3) := by decide +kernel
theorem dX6_countBack_100 : decode cX6_countBack 100 = .ok (.iload 4, 2) := by decide +kernel
theorem dX6_countBack_102 : decode cX6_countBack 102 = .ok (.iaload, 1) := by decide +kernel
theorem dX6_countBack_103 : decode cX6_countBack 103 = .ok (.isub, 1) := by decide +kernel
theorem dX6_countBack_104 : decode cX6_countBack 104 = .ok (.aload_n 0, 1) := by decide +kernel
theorem dX6_countBack_105 : decode cX6_countBack 105 = .ok (.getfield 9, 3) := by decide +kernel
theorem dX6_countBack_108 : decode cX6_countBack 108 = .ok (.iadd, 1) := by decide +kernel
theorem dX6_countBack_109 : decode cX6_countBack 109 = .ok (.iload_n 2, 1) := by decide +kernel
theorem dX6_countBack_110 : decode cX6_countBack 110 = .ok (.iload 5, 2) := by decide +kernel
theorem dX6_countBack_112 : decode cX6_countBack 112 = .ok (.aload_n 0, 1) := by decide +kernel
theorem dX6_countBack_113 : decode cX6_countBack 113 = .ok (.getfield 15, 3) := by decide +kernel
theorem dX6_countBack_116 : decode cX6_countBack 116 = .ok (.imul, 1) := by decide +kernel
theorem dX6_countBack_117 : decode cX6_countBack 117 = .ok (.isub, 1) := by decide +kernel
theorem dX6_countBack_118 : decode cX6_countBack 118 = .ok (.aload_n 0, 1) := by decide +kernel
theorem dX6_countBack_119 : decode cX6_countBack 119 = .ok (.getfield 25, 3) := by decide +kernel
theorem dX6_countBack_122 : decode cX6_countBack 122 = .ok (.iload 4, 2) := by decide +kernel
theorem dX6_countBack_124 : decode cX6_countBack 124 = .ok (.iaload, 1) := by decide +kernel
theorem dX6_countBack_125 : decode cX6_countBack 125 = .ok (.isub, 1) := by decide +kernel
theorem dX6_countBack_126 : decode cX6_countBack 126 = .ok (.aload_n 0, 1) := by decide +kernel
theorem dX6_countBack_127 : decode cX6_countBack 127 = .ok (.getfield 15, 3) := by decide +kernel
theorem dX6_countBack_130 : decode cX6_countBack 130 = .ok (.iadd, 1) := by decide +kernel
theorem dX6_countBack_131 : decode cX6_countBack 131 = .ok (.invokevirtual 79, 3) := by decide +kernel
theorem dX6_countBack_134 : decode cX6_countBack 134 = .ok (.istore_n 2, 1) := by decide +kernel
theorem dX6_countBack_135 : decode cX6_countBack 135 = .ok (.iinc 3 1, 3) := by decide +kernel
theorem dX6_countBack_138 : decode cX6_countBack 138 = .ok (.goto (-109), 3) := by decide +kernel
theorem dX6_countBack_141 : decode cX6_countBack 141 = .ok (.iload_n 2, 1) := by decide +kernel
theorem dX6_countBack_142 : decode cX6_countBack 142 = .ok (.ifCond .ne 7, 3) := by decide +kernel
theorem dX6_countBack_145 : decode cX6_countBack 145 = .ok (.iconst 1, 1) := by decide +kernel
theorem dX6_countBack_146 : decode cX6_countBack 146 = .ok (.goto 4, 3) := by decide +kernel
theorem dX6_countBack_149 : decode cX6_countBack 149 = .ok (.iconst 0, 1) := by decide +kernel
theorem dX6_countBack_150 : decode cX6_countBack 150 = .ok (.ireturn, 1) := by decide +kernel
theorem dX6_placeAt_0 : decode cX6_placeAt 0 = .ok (.iload_n 1, 1) := by decide +kernel
theorem dX6_placeAt_1 : decode cX6_placeAt 1 = .ok (.aload_n 0, 1) := by decide +kernel
theorem dX6_placeAt_2 : decode cX6_placeAt 2 = .ok (.getfield 9, 3) := by decide +kernel
theorem dX6_placeAt_5 : decode cX6_placeAt 5 = .ok (.if_icmp .ge 7, 3) := by decide +kernel
theorem dX6_placeAt_8 : decode cX6_placeAt 8 = .ok (.iload_n 1, 1) := by decide +kernel
theorem dX6_placeAt_9 : decode cX6_placeAt 9 = .ok (.goto 9, 3) := by decide +kernel
theorem dX6_placeAt_12 : decode cX6_placeAt 12 = .ok (.iload_n 1, 1) := by decide +kernel
theorem dX6_placeAt_13 : decode cX6_placeAt 13 = .ok (.aload_n 0, 1) := by decide +kernel
theorem dX6_placeAt_14 : decode cX6_placeAt 14 = .ok (.getfield 9, 3) := by decide +kernel
theorem dX6_placeAt_17 : decode cX6_placeAt 17 = .ok (.isub, 1) := by decide +kernel
theorem dX6_placeAt_18 : decode cX6_placeAt 18 = .ok (.aload_n 0, 1) := by decide +kernel
theorem dX6_placeAt_19 : decode cX6_placeAt 19 = .ok (.getfield 15, 3) := by decide +kernel
theorem dX6_placeAt_22 : decode cX6_placeAt 22 = .ok (.imul, 1) := by decide +kernel
theorem dX6_placeAt_23 : decode cX6_placeAt 23 = .ok (.iload_n 2, 1) := by decide +kernel
theorem dX6_placeAt_24 : decode cX6_placeAt 24 = .ok (.aload_n 0, 1) := by decide +kernel
theorem dX6_placeAt_25 : decode cX6_placeAt 25 = .ok (.getfield 15, 3) := by decide +kernel
theorem dX6_placeAt_28 : decode cX6_placeAt 28 = .ok (.if_icmp .ge 7, 3) := by decide +kernel
theorem dX6_placeAt_31 : decode cX6_placeAt 31 = .ok (.iload_n 2, 1) := by decide +kernel
theorem dX6_placeAt_32 : decode cX6_placeAt 32 = .ok (.goto 9, 3) := by decide +kernel
theorem dX6_placeAt_35 : decode cX6_placeAt 35 = .ok (.iload_n 2, 1) := by decide +kernel
theorem dX6_placeAt_36 : decode cX6_placeAt 36 = .ok (.aload_n 0, 1) := by decide +kernel
theorem dX6_placeAt_37 : decode cX6_placeAt 37 = .ok (.getfield 15, 3) := by decide +kernel
theorem dX6_placeAt_40 : decode cX6_placeAt 40 = .ok (.isub, 1) := by decide +kernel
theorem dX6_placeAt_41 : decode cX6_placeAt 41 = .ok (.iadd, 1) := by decide +kernel
theorem dX6_placeAt_42 : decode cX6_placeAt 42 = .ok (.ireturn, 1) := by decide +kernel
theorem dX6_pushesOf_0 : decode cX6_pushesOf 0 = .ok (.iload_n 1, 1) := by decide +kernel
theorem dX6_pushesOf_1 : decode cX6_pushesOf 1 = .ok (.ifCond .lt 25, 3) := by decide +kernel
theorem dX6_pushesOf_4 : decode cX6_pushesOf 4 = .ok (.iload_n 1, 1) := by decide +kernel
theorem dX6_pushesOf_5 : decode cX6_pushesOf 5 = .ok (.aload_n 0, 1) := by decide +kernel
theorem dX6_pushesOf_6 : decode cX6_pushesOf 6 = .ok (.getfield 18, 3) := by decide +kernel
theorem dX6_pushesOf_9 : decode cX6_pushesOf 9 = .ok (.if_icmp .ge 17, 3) := by decide +kernel
theorem dX6_pushesOf_12 : decode cX6_pushesOf 12 = .ok (.iload_n 1, 1) := by decide +kernel
theorem dX6_pushesOf_13 : decode cX6_pushesOf 13 = .ok (.iconst 4, 1) := by decide +kernel
theorem dX6_pushesOf_14 : decode cX6_pushesOf 14 = .ok (.if_icmp .ge 12, 3) := by decide +kernel
theorem dX6_pushesOf_17 : decode cX6_pushesOf 17 = .ok (.aload_n 0, 1) := by decide +kernel
theorem dX6_pushesOf_18 : decode cX6_pushesOf 18 = .ok (.getfield 28, 3) := by decide +kernel
theorem dX6_pushesOf_21 : decode cX6_pushesOf 21 = .ok (.iload_n 1, 1) := by decide +kernel
theorem dX6_pushesOf_22 : decode cX6_pushesOf 22 = .ok (.iaload, 1) := by decide +kernel
theorem dX6_pushesOf_23 : decode cX6_pushesOf 23 = .ok (.goto 4, 3) := by decide +kernel
theorem dX6_pushesOf_26 : decode cX6_pushesOf 26 = .ok (.iconst (-1), 1) := by decide +kernel
theorem dX6_pushesOf_27 : decode cX6_pushesOf 27 = .ok (.ireturn, 1) := by decide +kernel
theorem dX6_isMet_0 : decode cX6_isMet 0 = .ok (.aload_n 0, 1) := by decide +kernel
theorem dX6_isMet_1 : decode cX6_isMet 1 = .ok (.iload_n 1, 1) := by decide +kernel
theorem dX6_isMet_2 : decode cX6_isMet 2 = .ok (.invokevirtual 65, 3) := by decide +kernel
theorem dX6_isMet_5 : decode cX6_isMet 5 = .ok (.ifCond .eq 7, 3) := by decide +kernel
theorem dX6_isMet_8 : decode cX6_isMet 8 = .ok (.iconst 1, 1) := by decide +kernel
theorem dX6_isMet_9 : decode cX6_isMet 9 = .ok (.goto 4, 3) := by decide +kernel
theorem dX6_isMet_12 : decode cX6_isMet 12 = .ok (.iconst 0, 1) := by decide +kernel
theorem dX6_isMet_13 : decode cX6_isMet 13 = .ok (.ireturn, 1) := by decide +kernel
theorem dX6_knobTo_0 : decode cX6_knobTo 0 = .ok (.aload_n 0, 1) := by decide +kernel
theorem dX6_knobTo_1 : decode cX6_knobTo 1 = .ok (.iload_n 1, 1) := by decide +kernel
theorem dX6_knobTo_2 : decode cX6_knobTo 2 = .ok (.invokevirtual 65, 3) := by decide +kernel
theorem dX6_knobTo_5 : decode cX6_knobTo 5 = .ok (.bipush 7, 2) := by decide +kernel
theorem dX6_knobTo_7 : decode cX6_knobTo 7 = .ok (.iand, 1) := by decide +kernel
theorem dX6_knobTo_8 : decode cX6_knobTo 8 = .ok (.iconst 1, 1) := by decide +kernel
theorem dX6_knobTo_9 : decode cX6_knobTo 9 = .ok (.isub, 1) := by decide +kernel
theorem dX6_knobTo_10 : decode cX6_knobTo 10 = .ok (.ireturn, 1) := by decide +kernel
theorem dX6_linkAt_0 : decode cX6_linkAt 0 = .ok (.iload_n 1, 1) := by decide +kernel
theorem dX6_linkAt_1 : decode cX6_linkAt 1 = .ok (.ifCond .lt 21, 3) := by decide +kernel
theorem dX6_linkAt_4 : decode cX6_linkAt 4 = .ok (.iload_n 1, 1) := by decide +kernel
theorem dX6_linkAt_5 : decode cX6_linkAt 5 = .ok (.aload_n 0, 1) := by decide +kernel
theorem dX6_linkAt_6 : decode cX6_linkAt 6 = .ok (.getfield 34, 3) := by decide +kernel
theorem dX6_linkAt_9 : decode cX6_linkAt 9 = .ok (.arraylength, 1) := by decide +kernel
theorem dX6_linkAt_10 : decode cX6_linkAt 10 = .ok (.if_icmp .ge 12, 3) := by decide +kernel
theorem dX6_linkAt_13 : decode cX6_linkAt 13 = .ok (.aload_n 0, 1) := by decide +kernel
theorem dX6_linkAt_14 : decode cX6_linkAt 14 = .ok (.getfield 34, 3) := by decide +kernel
theorem dX6_linkAt_17 : decode cX6_linkAt 17 = .ok (.iload_n 1, 1) := by decide +kernel
theorem dX6_linkAt_18 : decode cX6_linkAt 18 = .ok (.iaload, 1) := by decide +kernel
theorem dX6_linkAt_19 : decode cX6_linkAt 19 = .ok (.goto 4, 3) := by decide +kernel
theorem dX6_linkAt_22 : decode cX6_linkAt 22 = .ok (.iconst 0, 1) := by decide +kernel
theorem dX6_linkAt_23 : decode cX6_linkAt 23 = .ok (.ireturn, 1) := by decide +kernel
theorem dX6_addToLink_0 : decode cX6_addToLink 0 = .ok (.iload_n 1, 1) := by decide +kernel
theorem dX6_addToLink_1 : decode cX6_addToLink 1 = .ok (.ifCond .lt 22, 3) := by decide +kernel
theorem dX6_addToLink_4 : decode cX6_addToLink 4 = .ok (.iload_n 1, 1) := by decide +kernel
theorem dX6_addToLink_5 : decode cX6_addToLink 5 = .ok (.aload_n 0, 1) := by decide +kernel
theorem dX6_addToLink_6 : decode cX6_addToLink 6 = .ok (.getfield 34, 3) := by decide +kernel
theorem dX6_addToLink_9 : decode cX6_addToLink 9 = .ok (.arraylength, 1) := by decide +kernel
theorem dX6_addToLink_10 : decode cX6_addToLink 10 = .ok (.if_icmp .ge 13, 3) := by decide +kernel
theorem dX6_addToLink_13 : decode cX6_addToLink 13 = .ok (.aload_n 0, 1) := by decide +kernel
theorem dX6_addToLink_14 : decode cX6_addToLink 14 = .ok (.getfield 34, 3) := by decide +kernel
theorem dX6_addToLink_17 : decode cX6_addToLink 17 = .ok (.iload_n 1, 1) := by decide +kernel
theorem dX6_addToLink_18 : decode cX6_addToLink 18 = .ok (.dup2, 1) := by decide +kernel
theorem dX6_addToLink_19 : decode cX6_addToLink 19 = .ok (.iaload, 1) := by decide +kernel
theorem dX6_addToLink_20 : decode cX6_addToLink 20 = .ok (.iload_n 2, 1) := by decide +kernel
theorem dX6_addToLink_21 : decode cX6_addToLink 21 = .ok (.iadd, 1) := by decide +kernel
theorem dX6_addToLink_22 : decode cX6_addToLink 22 = .ok (.iastore, 1) := by decide +kernel
theorem dX6_addToLink_23 : decode cX6_addToLink 23 = .ok (.return_, 1) := by decide +kernel
theorem dX7_init_0 : decode cX7_init 0 = .ok (.aload_n 0, 1) := by decide +kernel
theorem dX7_init_1 : decode cX7_init 1 = .ok (.invokespecial 3, 3) := by decide +kernel
theorem dX7_init_4 : decode cX7_init 4 = .ok (.aload_n 0, 1) := by decide +kernel
theorem dX7_init_5 : decode cX7_init 5 = .ok (.iconst 1, 1) := by decide +kernel
theorem dX7_init_6 : decode cX7_init 6 = .ok (.putfield 9, 3) := by decide +kernel
theorem dX7_init_9 : decode cX7_init 9 = .ok (.aload_n 0, 1) := by decide +kernel
theorem dX7_init_10 : decode cX7_init 10 = .ok (.iconst 0, 1) := by decide +kernel
theorem dX7_init_11 : decode cX7_init 11 = .ok (.putfield 15, 3) := by decide +kernel
theorem dX7_init_14 : decode cX7_init 14 = .ok (.aload_n 0, 1) := by decide +kernel
theorem dX7_init_15 : decode cX7_init 15 = .ok (.bipush 10, 2) := by decide +kernel
theorem dX7_init_17 : decode cX7_init 17 = .ok (.newarray .int, 2) := by decide +kernel
theorem dX7_init_19 : decode cX7_init 19 = .ok (.putfield 18, 3) := by decide +kernel
theorem dX7_init_22 : decode cX7_init 22 = .ok (.aload_n 0, 1) := by decide +kernel
theorem dX7_init_23 : decode cX7_init 23 = .ok (.bipush 10, 2) := by decide +kernel
theorem dX7_init_25 : decode cX7_init 25 = .ok (.newarray .int, 2) := by decide +kernel
theorem dX7_init_27 : decode cX7_init 27 = .ok (.putfield 22, 3) := by decide +kernel
theorem dX7_init_30 : decode cX7_init 30 = .ok (.aload_n 0, 1) := by decide +kernel
theorem dX7_init_31 : decode cX7_init 31 = .ok (.iconst 0, 1) := by decide +kernel
theorem dX7_init_32 : decode cX7_init 32 = .ok (.putfield 25, 3) := by decide +kernel
theorem dX7_init_35 : decode cX7_init 35 = .ok (.aload_n 0, 1) := by decide +kernel
theorem dX7_init_36 : decode cX7_init 36 = .ok (.iconst 0, 1) := by decide +kernel
theorem dX7_init_37 : decode cX7_init 37 = .ok (.putfield 28, 3) := by decide +kernel
theorem dX7_init_40 : decode cX7_init 40 = .ok (.return_, 1) := by decide +kernel
theorem dX7_findFor_0 : decode cX7_findFor 0 = .ok (.aload_n 0, 1) := by decide +kernel
theorem dX7_findFor_1 : decode cX7_findFor 1 = .ok (.iload_n 3, 1) := by decide +kernel
theorem dX7_findFor_2 : decode cX7_findFor 2 = .ok (.putfield 9, 3) := by decide +kernel
theorem dX7_findFor_5 : decode cX7_findFor 5 = .ok (.aload_n 0, 1) := by decide +kernel
theorem dX7_findFor_6 : decode cX7_findFor 6 = .ok (.iconst 0, 1) := by decide +kernel
theorem dX7_findFor_7 : decode cX7_findFor 7 = .ok (.putfield 25, 3) := by decide +kernel
theorem dX7_findFor_10 : decode cX7_findFor 10 = .ok (.aload_n 0, 1) := by decide +kernel
theorem dX7_findFor_11 : decode cX7_findFor 11 = .ok (.iconst 0, 1) := by decide +kernel
theorem dX7_findFor_12 : decode cX7_findFor 12 = .ok (.putfield 15, 3) := by decide +kernel
theorem dX7_findFor_15 : decode cX7_findFor 15 = .ok (.iconst 0, 1) := by decide +kernel
theorem dX7_findFor_16 : decode cX7_findFor 16 = .ok (.istore 4, 2) := by decide +kernel
theorem dX7_findFor_18 : decode cX7_findFor 18 = .ok (.iload 4, 2) := by decide +kernel
theorem dX7_findFor_20 : decode cX7_findFor 20 = .ok (.aload_n 1, 1) := by decide +kernel
theorem dX7_findFor_21 : decode cX7_findFor 21 = .ok (.getfield 31, 3) := by decide +kernel
theorem dX7_findFor_24 : decode cX7_findFor 24 = .ok (.if_icmp .ge 68, 3) := by decide +kernel
theorem dX7_findFor_27 : decode cX7_findFor 27 = .ok (.aload_n 0, 1) := by decide +kernel
theorem dX7_findFor_28 : decode cX7_findFor 28 = .ok (.getfield 15, 3) := by decide +kernel
theorem dX7_findFor_31 : decode cX7_findFor 31 = .ok (.bipush 10, 2) := by decide +kernel
theorem dX7_findFor_33 : decode cX7_findFor 33 = .ok (.if_icmp .ge 59, 3) := by decide +kernel
theorem dX7_findFor_36 : decode cX7_findFor 36 = .ok (.aload_n 1, 1) := by decide +kernel
theorem dX7_findFor_37 : decode cX7_findFor 37 = .ok (.iload 4, 2) := by decide +kernel
theorem dX7_findFor_39 : decode cX7_findFor 39 = .ok (.invokevirtual 36, 3) := by decide +kernel
theorem dX7_findFor_42 : decode cX7_findFor 42 = .ok (.iload_n 2, 1) := by decide +kernel
theorem dX7_findFor_43 : decode cX7_findFor 43 = .ok (.if_icmp .ne 43, 3) := by decide +kernel
theorem dX7_findFor_46 : decode cX7_findFor 46 = .ok (.aload_n 0, 1) := by decide +kernel
theorem dX7_findFor_47 : decode cX7_findFor 47 = .ok (.getfield 18, 3) := by decide +kernel
theorem dX7_findFor_50 : decode cX7_findFor 50 = .ok (.aload_n 0, 1) := by decide +kernel
theorem dX7_findFor_51 : decode cX7_findFor 51 = .ok (.getfield 15, 3) := by decide +kernel
theorem dX7_findFor_54 : decode cX7_findFor 54 = .ok (.aload_n 1, 1) := by decide +kernel
theorem dX7_findFor_55 : decode cX7_findFor 55 = .ok (.iload 4, 2) := by decide +kernel
theorem dX7_findFor_57 : decode cX7_findFor 57 = .ok (.invokevirtual 40, 3) := by decide +kernel
theorem dX7_findFor_60 : decode cX7_findFor 60 = .ok (.iastore, 1) := by decide +kernel
theorem dX7_findFor_61 : decode cX7_findFor 61 = .ok (.aload_n 0, 1) := by decide +kernel
theorem dX7_findFor_62 : decode cX7_findFor 62 = .ok (.getfield 22, 3) := by decide +kernel
theorem dX7_findFor_65 : decode cX7_findFor 65 = .ok (.aload_n 0, 1) := by decide +kernel
theorem dX7_findFor_66 : decode cX7_findFor 66 = .ok (.getfield 15, 3) := by decide +kernel
theorem dX7_findFor_69 : decode cX7_findFor 69 = .ok (.aload_n 1, 1) := by decide +kernel
theorem dX7_findFor_70 : decode cX7_findFor 70 = .ok (.iload 4, 2) := by decide +kernel
theorem dX7_findFor_72 : decode cX7_findFor 72 = .ok (.invokevirtual 43, 3) := by decide +kernel
theorem dX7_findFor_75 : decode cX7_findFor 75 = .ok (.iastore, 1) := by decide +kernel
theorem dX7_findFor_76 : decode cX7_findFor 76 = .ok (.aload_n 0, 1) := by decide +kernel
theorem dX7_findFor_77 : decode cX7_findFor 77 = .ok (.dup, 1) := by decide +kernel
theorem dX7_findFor_78 : decode cX7_findFor 78 = .ok (.getfield 15, 3) := by decide +kernel
theorem dX7_findFor_81 : decode cX7_findFor 81 = .ok (.iconst 1, 1) := by decide +kernel
theorem dX7_findFor_82 : decode cX7_findFor 82 = .ok (.iadd, 1) := by decide +kernel
theorem dX7_findFor_83 : decode cX7_findFor 83 = .ok (.putfield 15, 3) := by decide +kernel
theorem dX7_findFor_86 : decode cX7_findFor 86 = .ok (.iinc 4 1, 3) := by decide +kernel
theorem dX7_findFor_89 : decode cX7_findFor 89 = .ok (.goto (-71), 3) := by decide +kernel
theorem dX7_findFor_92 : decode cX7_findFor 92 = .ok (.aload_n 0, 1) := by decide +kernel
theorem dX7_findFor_93 : decode cX7_findFor 93 = .ok (.aload_n 1, 1) := by decide +kernel
theorem dX7_findFor_94 : decode cX7_findFor 94 = .ok (.invokevirtual 46, 3) := by decide +kernel
theorem dX7_findFor_97 : decode cX7_findFor 97 = .ok (.return_, 1) := by decide +kernel
theorem dX7_weigh_0 : decode cX7_weigh 0 = .ok (.aload_n 0, 1) := by decide +kernel
theorem dX7_weigh_1 : decode cX7_weigh 1 = .ok (.getfield 15, 3) := by decide +kernel
theorem dX7_weigh_4 : decode cX7_weigh 4 = .ok (.ifCond .ne 27, 3) := by decide +kernel
theorem dX7_weigh_7 : decode cX7_weigh 7 = .ok (.aload_n 0, 1) := by decide +kernel
theorem dX7_weigh_8 : decode cX7_weigh 8 = .ok (.dup, 1) := by decide +kernel
theorem dX7_weigh_9 : decode cX7_weigh 9 = .ok (.getfield 25, 3) := by decide +kernel
theorem dX7_weigh_12 : decode cX7_weigh 12 = .ok (.iload 6, 2) := by decide +kernel
theorem dX7_weigh_14 : decode cX7_weigh 14 = .ok (.aload_n 0, 1) := by decide +kernel
theorem dX7_weigh_15 : decode cX7_weigh 15 = .ok (.getfield 9, 3) := by decide +kernel
theorem dX7_weigh_18 : decode cX7_weigh 18 = .ok (.imul, 1) := by decide +kernel
theorem dX7_weigh_19 : decode cX7_weigh 19 = .ok (.iadd, 1) := by decide +kernel
theorem dX7_weigh_20 : decode cX7_weigh 20 = .ok (.putfield 25, 3) := by decide +kernel
theorem dX7_weigh_23 : decode cX7_weigh 23 = .ok (.aload_n 0, 1) := by decide +kernel
theorem dX7_weigh_24 : decode cX7_weigh 24 = .ok (.iload 5, 2) := by decide +kernel
theorem dX7_weigh_26 : decode cX7_weigh 26 = .ok (.iconst 0, 1) := by decide +kernel
theorem dX7_weigh_27 : decode cX7_weigh 27 = .ok (.invokevirtual 50, 3) := by decide +kernel
theorem dX7_weigh_30 : decode cX7_weigh 30 = .ok (.return_, 1) := by decide +kernel
theorem dX7_weigh_31 : decode cX7_weigh 31 = .ok (.aload_n 0, 1) := by decide +kernel
theorem dX7_weigh_32 : decode cX7_weigh 32 = .ok (.iconst 0, 1) := by decide +kernel
theorem dX7_weigh_33 : decode cX7_weigh 33 = .ok (.lload_n 1, 1) := by decide +kernel
theorem dX7_weigh_34 : decode cX7_weigh 34 = .ok (.lload_n 3, 1) := by decide +kernel
theorem dX7_weigh_35 : decode cX7_weigh 35 = .ok (.invokevirtual 54, 3) := by decide +kernel
theorem dX7_weigh_38 : decode cX7_weigh 38 = .ok (.istore 7, 2) := by decide +kernel
theorem dX7_weigh_40 : decode cX7_weigh 40 = .ok (.iconst 1, 1) := by decide +kernel
theorem dX7_weigh_41 : decode cX7_weigh 41 = .ok (.istore 8, 2) := by decide +kernel
theorem dX7_weigh_43 : decode cX7_weigh 43 = .ok (.iload 8, 2) := by decide +kernel
theorem dX7_weigh_45 : decode cX7_weigh 45 = .ok (.aload_n 0, 1) := by decide +kernel
theorem dX7_weigh_46 : decode cX7_weigh 46 = .ok (.getfield 15, 3) := by decide +kernel
theorem dX7_weigh_49 : decode cX7_weigh 49 = .ok (.if_icmp .ge 23, 3) := by decide +kernel
theorem dX7_weigh_52 : decode cX7_weigh 52 = .ok (.aload_n 0, 1) := by decide +kernel
theorem dX7_weigh_53 : decode cX7_weigh 53 = .ok (.iload 8, 2) := by decide +kernel
theorem dX7_weigh_55 : decode cX7_weigh 55 = .ok (.lload_n 1, 1) := by decide +kernel
theorem dX7_weigh_56 : decode cX7_weigh 56 = .ok (.lload_n 3, 1) := by decide +kernel
theorem dX7_weigh_57 : decode cX7_weigh 57 = .ok (.invokevirtual 54, 3) := by decide +kernel
theorem dX7_weigh_60 : decode cX7_weigh 60 = .ok (.iload 7, 2) := by decide +kernel
theorem dX7_weigh_62 : decode cX7_weigh 62 = .ok (.if_icmp .eq 4, 3) := by decide +kernel
theorem dX7_weigh_65 : decode cX7_weigh 65 = .ok (.return_, 1) := by decide +kernel
theorem dX7_weigh_66 : decode cX7_weigh 66 = .ok (.iinc 8 1, 3) := by decide +kernel
theorem dX7_weigh_69 : decode cX7_weigh 69 = .ok (.goto (-26), 3) := by decide +kernel
theorem dX7_weigh_72 : decode cX7_weigh 72 = .ok (.aload_n 0, 1) := by decide +kernel
theorem dX7_weigh_73 : decode cX7_weigh 73 = .ok (.dup, 1) := by decide +kernel
theorem dX7_weigh_74 : decode cX7_weigh 74 = .ok (.getfield 25, 3) := by decide +kernel
theorem dX7_weigh_77 : decode cX7_weigh 77 = .ok (.iload 6, 2) := by decide +kernel
theorem dX7_weigh_79 : decode cX7_weigh 79 = .ok (.iadd, 1) := by decide +kernel
theorem dX7_weigh_80 : decode cX7_weigh 80 = .ok (.putfield 25, 3) := by decide +kernel
theorem dX7_weigh_83 : decode cX7_weigh 83 = .ok (.aload_n 0, 1) := by decide +kernel
theorem dX7_weigh_84 : decode cX7_weigh 84 = .ok (.iload 5, 2) := by decide +kernel
theorem dX7_weigh_86 : decode cX7_weigh 86 = .ok (.iload 7, 2) := by decide +kernel
theorem dX7_weigh_88 : decode cX7_weigh 88 = .ok (.invokevirtual 50, 3) := by decide +kernel
theorem dX7_weigh_91 : decode cX7_weigh 91 = .ok (.return_, 1) := by decide +kernel
theorem dX7_offsetBy_0 : decode cX7_offsetBy 0 = .ok (.iload_n 1, 1) := by decide +kernel
theorem dX7_offsetBy_1 : decode cX7_offsetBy 1 = .ok (.ifCond .lt 9, 3) := by decide +kernel
theorem dX7_offsetBy_4 : decode cX7_offsetBy 4 = .ok (.iload_n 1, 1) := by decide +kernel
theorem dX7_offsetBy_5 : decode cX7_offsetBy 5 = .ok (.bipush 10, 2) := by decide +kernel
theorem dX7_offsetBy_7 : decode cX7_offsetBy 7 = .ok (.if_icmp .lt 5, 3) := by decide +kernel
theorem dX7_offsetBy_10 : decode cX7_offsetBy 10 = .ok (.iconst 0, 1) := by decide +kernel
theorem dX7_offsetBy_11 : decode cX7_offsetBy 11 = .ok (.ireturn, 1) := by decide +kernel
theorem dX7_offsetBy_12 : decode cX7_offsetBy 12 = .ok (.aload_n 0, 1) := by decide +kernel
theorem dX7_offsetBy_13 : decode cX7_offsetBy 13 = .ok (.getfield 18, 3) := by decide +kernel
theorem dX7_offsetBy_16 : decode cX7_offsetBy 16 = .ok (.iload_n 1, 1) := by decide +kernel
theorem dX7_offsetBy_17 : decode cX7_offsetBy 17 = .ok (.iaload, 1) := by decide +kernel
theorem dX7_offsetBy_18 : decode cX7_offsetBy 18 = .ok (.i2l, 1) := by decide +kernel
theorem dX7_offsetBy_19 : decode cX7_offsetBy 19 = .ok (.lload_n 2, 1) := by decide +kernel
theorem dX7_offsetBy_20 : decode cX7_offsetBy 20 = .ok (.lmul, 1) := by decide +kernel
theorem dX7_offsetBy_21 : decode cX7_offsetBy 21 = .ok (.aload_n 0, 1) := by decide +kernel
theorem dX7_offsetBy_22 : decode cX7_offsetBy 22 = .ok (.getfield 9, 3) := by decide +kernel
theorem dX7_offsetBy_25 : decode cX7_offsetBy 25 = .ok (.i2l, 1) := by decide +kernel
theorem dX7_offsetBy_26 : decode cX7_offsetBy 26 = .ok (.lmul, 1) := by decide +kernel
theorem dX7_offsetBy_27 : decode cX7_offsetBy 27 = .ok (.lload 4, 2) := by decide +kernel
theorem dX7_offsetBy_29 : decode cX7_offsetBy 29 = .ok (.invokestatic 58, 3) := by decide +kernel
theorem dX7_offsetBy_32 : decode cX7_offsetBy 32 = .ok (.aload_n 0, 1) := by decide +kernel
theorem dX7_offsetBy_33 : decode cX7_offsetBy 33 = .ok (.getfield 9, 3) := by decide +kernel
theorem dX7_offsetBy_36 : decode cX7_offsetBy 36 = .ok (.i2l, 1) := by decide +kernel
theorem dX7_offsetBy_37 : decode cX7_offsetBy 37 = .ok (.invokestatic 62, 3) := by decide +kernel
theorem dX7_offsetBy_40 : decode cX7_offsetBy 40 = .ok (.l2i, 1) := by decide +kernel
theorem dX7_offsetBy_41 : decode cX7_offsetBy 41 = .ok (.istore 6, 2) := by decide +kernel
theorem dX7_offsetBy_43 : decode cX7_offsetBy 43 = .ok (.aload_n 0, 1) := by decide +kernel
theorem dX7_offsetBy_44 : decode cX7_offsetBy 44 = .ok (.getfield 22, 3) := by decide +kernel
theorem dX7_offsetBy_47 : decode cX7_offsetBy 47 = .ok (.iload_n 1, 1) := by decide +kernel
theorem dX7_offsetBy_48 : decode cX7_offsetBy 48 = .ok (.iaload, 1) := by decide +kernel
theorem dX7_offsetBy_49 : decode cX7_offsetBy 49 = .ok (.iload 6, 2) := by decide +kernel
theorem dX7_offsetBy_51 : decode cX7_offsetBy 51 = .ok (.isub, 1) := by decide +kernel
theorem dX7_offsetBy_52 : decode cX7_offsetBy 52 = .ok (.aload_n 0, 1) := by decide +kernel
theorem dX7_offsetBy_53 : decode cX7_offsetBy 53 = .ok (.getfield 9, 3) := by decide +kernel
theorem dX7_offsetBy_56 : decode cX7_offsetBy 56 = .ok (.invokestatic 65, 3) := by decide +kernel
theorem dX7_offsetBy_59 : decode cX7_offsetBy 59 = .ok (.ireturn, 1) := by decide +kernel
theorem dX7_keepIfBetter_0 : decode cX7_keepIfBetter 0 = .ok (.aload_n 0, 1) := by decide +kernel
theorem dX7_keepIfBetter_1 : decode cX7_keepIfBetter 1 = .ok (.getfield 69, 3) := by decide +kernel
theorem dX7_keepIfBetter_4 : decode cX7_keepIfBetter 4 = .ok (.ifCond .eq 19, 3) := by decide +kernel
theorem dX7_keepIfBetter_7 : decode cX7_keepIfBetter 7 = .ok (.iload_n 1, 1) := by decide +kernel
theorem dX7_keepIfBetter_8 : decode cX7_keepIfBetter 8 = .ok (.aload_n 0, 1) := by decide +kernel
theorem dX7_keepIfBetter_9 : decode cX7_keepIfBetter 9 = .ok (.getfield 69, 3) := by decide +kernel
theorem dX7_keepIfBetter_12 : decode cX7_keepIfBetter 12 = .ok (.if_icmp .ne 21, 3) := by decide +kernel
theorem dX7_keepIfBetter_15 : decode cX7_keepIfBetter 15 = .ok (.iload_n 2, 1) := by decide +kernel
theorem dX7_keepIfBetter_16 : decode cX7_keepIfBetter 16 = .ok (.aload_n 0, 1) := by decide +kernel
theorem dX7_keepIfBetter_17 : decode cX7_keepIfBetter 17 = .ok (.getfield 28, 3) := by decide +kernel
theorem dX7_keepIfBetter_20 : decode cX7_keepIfBetter 20 = .ok (.if_icmp .ge 13, 3) := by decide +kernel
theorem dX7_keepIfBetter_23 : decode cX7_keepIfBetter 23 = .ok (.aload_n 0, 1) := by decide +kernel
theorem dX7_keepIfBetter_24 : decode cX7_keepIfBetter 24 = .ok (.iload_n 2, 1) := by decide +kernel
theorem dX7_keepIfBetter_25 : decode cX7_keepIfBetter 25 = .ok (.putfield 28, 3) := by decide +kernel
theorem dX7_keepIfBetter_28 : decode cX7_keepIfBetter 28 = .ok (.aload_n 0, 1) := by decide +kernel
theorem dX7_keepIfBetter_29 : decode cX7_keepIfBetter 29 = .ok (.iload_n 1, 1) := by decide +kernel
theorem dX7_keepIfBetter_30 : decode cX7_keepIfBetter 30 = .ok (.invokevirtual 72, 3) := by decide +kernel
theorem dX7_keepIfBetter_33 : decode cX7_keepIfBetter 33 = .ok (.return_, 1) := by decide +kernel
theorem dX8_init_0 : decode cX8_init 0 = .ok (.aload_n 0, 1) := by decide +kernel
theorem dX8_init_1 : decode cX8_init 1 = .ok (.invokespecial 3, 3) := by decide +kernel
theorem dX8_init_4 : decode cX8_init 4 = .ok (.aload_n 0, 1) := by decide +kernel
theorem dX8_init_5 : decode cX8_init 5 = .ok (.iconst 0, 1) := by decide +kernel
theorem dX8_init_6 : decode cX8_init 6 = .ok (.putfield 9, 3) := by decide +kernel
theorem dX8_init_9 : decode cX8_init 9 = .ok (.aload_n 0, 1) := by decide +kernel
theorem dX8_init_10 : decode cX8_init 10 = .ok (.bipush 6, 2) := by decide +kernel
theorem dX8_init_12 : decode cX8_init 12 = .ok (.anewarray 15, 3) := by decide +kernel
theorem dX8_init_15 : decode cX8_init 15 = .ok (.putfield 17, 3) := by decide +kernel
theorem dX8_init_18 : decode cX8_init 18 = .ok (.aload_n 0, 1) := by decide +kernel
theorem dX8_init_19 : decode cX8_init 19 = .ok (.iconst 0, 1) := by decide +kernel
theorem dX8_init_20 : decode cX8_init 20 = .ok (.putfield 21, 3) := by decide +kernel
theorem dX8_init_23 : decode cX8_init 23 = .ok (.aload_n 0, 1) := by decide +kernel
theorem dX8_init_24 : decode cX8_init 24 = .ok (.bipush 12, 2) := by decide +kernel
theorem dX8_init_26 : decode cX8_init 26 = .ok (.newarray .int, 2) := by decide +kernel
theorem dX8_init_28 : decode cX8_init 28 = .ok (.putfield 25, 3) := by decide +kernel
theorem dX8_init_31 : decode cX8_init 31 = .ok (.aload_n 0, 1) := by decide +kernel
theorem dX8_init_32 : decode cX8_init 32 = .ok (.iconst 0, 1) := by decide +kernel
theorem dX8_init_33 : decode cX8_init 33 = .ok (.putfield 29, 3) := by decide +kernel
theorem dX8_init_36 : decode cX8_init 36 = .ok (.aload_n 0, 1) := by decide +kernel
theorem dX8_init_37 : decode cX8_init 37 = .ok (.sipush 10000, 3) := by decide +kernel
theorem dX8_init_40 : decode cX8_init 40 = .ok (.putfield 32, 3) := by decide +kernel
theorem dX8_init_43 : decode cX8_init 43 = .ok (.aload_n 0, 1) := by decide +kernel
theorem dX8_init_44 : decode cX8_init 44 = .ok (.bipush 6, 2) := by decide +kernel
theorem dX8_init_46 : decode cX8_init 46 = .ok (.anewarray 35, 3) := by decide +kernel
theorem dX8_init_49 : decode cX8_init 49 = .ok (.putfield 37, 3) := by decide +kernel
theorem dX8_init_52 : decode cX8_init 52 = .ok (.aload_n 0, 1) := by decide +kernel
theorem dX8_init_53 : decode cX8_init 53 = .ok (.iconst 0, 1) := by decide +kernel
theorem dX8_init_54 : decode cX8_init 54 = .ok (.putfield 41, 3) := by decide +kernel
theorem dX8_init_57 : decode cX8_init 57 = .ok (.aload_n 0, 1) := by decide +kernel
theorem dX8_init_58 : decode cX8_init 58 = .ok (.iconst (-1), 1) := by decide +kernel
theorem dX8_init_59 : decode cX8_init 59 = .ok (.putfield 44, 3) := by decide +kernel
theorem dX8_init_62 : decode cX8_init 62 = .ok (.aload_n 0, 1) := by decide +kernel
theorem dX8_init_63 : decode cX8_init 63 = .ok (.bipush 10, 2) := by decide +kernel
theorem dX8_init_65 : decode cX8_init 65 = .ok (.newarray .int, 2) := by decide +kernel
theorem dX8_init_67 : decode cX8_init 67 = .ok (.putfield 47, 3) := by decide +kernel
theorem dX8_init_70 : decode cX8_init 70 = .ok (.aload_n 0, 1) := by decide +kernel
theorem dX8_init_71 : decode cX8_init 71 = .ok (.bipush 10, 2) := by decide +kernel
theorem dX8_init_73 : decode cX8_init 73 = .ok (.newarray .int, 2) := by decide +kernel
theorem dX8_init_75 : decode cX8_init 75 = .ok (.putfield 50, 3) := by decide +kernel
theorem dX8_init_78 : decode cX8_init 78 = .ok (.aload_n 0, 1) := by decide +kernel
theorem dX8_init_79 : decode cX8_init 79 = .ok (.bipush 10, 2) := by decide +kernel
theorem dX8_init_81 : decode cX8_init 81 = .ok (.newarray .int, 2) := by decide +kernel
theorem dX8_init_83 : decode cX8_init 83 = .ok (.putfield 53, 3) := by decide +kernel
theorem dX8_init_86 : decode cX8_init 86 = .ok (.aload_n 0, 1) := by decide +kernel
theorem dX8_init_87 : decode cX8_init 87 = .ok (.iconst 0, 1) := by decide +kernel
theorem dX8_init_88 : decode cX8_init 88 = .ok (.putfield 56, 3) := by decide +kernel
theorem dX8_init_91 : decode cX8_init 91 = .ok (.aload_n 0, 1) := by decide +kernel
theorem dX8_init_92 : decode cX8_init 92 = .ok (.bipush 24, 2) := by decide +kernel
theorem dX8_init_94 : decode cX8_init 94 = .ok (.newarray .int, 2) := by decide +kernel
theorem dX8_init_96 : decode cX8_init 96 = .ok (.putfield 59, 3) := by decide +kernel
theorem dX8_init_99 : decode cX8_init 99 = .ok (.aload_n 0, 1) := by decide +kernel
theorem dX8_init_100 : decode cX8_init 100 = .ok (.iconst 0, 1) := by decide +kernel
theorem dX8_init_101 : decode cX8_init 101 = .ok (.putfield 62, 3) := by decide +kernel
theorem dX8_init_104 : decode cX8_init 104 = .ok (.iconst 0, 1) := by decide +kernel
theorem dX8_init_105 : decode cX8_init 105 = .ok (.istore_n 1, 1) := by decide +kernel
theorem dX8_init_106 : decode cX8_init 106 = .ok (.iload_n 1, 1) := by decide +kernel
theorem dX8_init_107 : decode cX8_init 107 = .ok (.aload_n 0, 1) := by decide +kernel
theorem dX8_init_108 : decode cX8_init 108 = .ok (.getfield 17, 3) := by decide +kernel
theorem dX8_init_111 : decode cX8_init 111 = .ok (.arraylength, 1) := by decide +kernel
theorem dX8_init_112 : decode cX8_init 112 = .ok (.if_icmp .ge 22, 3) := by decide +kernel
theorem dX8_init_115 : decode cX8_init 115 = .ok (.aload_n 0, 1) := by decide +kernel
theorem dX8_init_116 : decode cX8_init 116 = .ok (.getfield 17, 3) := by decide +kernel
theorem dX8_init_119 : decode cX8_init 119 = .ok (.iload_n 1, 1) := by decide +kernel
theorem dX8_init_120 : decode cX8_init 120 = .ok (.new 15, 3) := by decide +kernel
theorem dX8_init_123 : decode cX8_init 123 = .ok (.dup, 1) := by decide +kernel
theorem dX8_init_124 : decode cX8_init 124 = .ok (.invokespecial 65, 3) := by decide +kernel
theorem dX8_init_127 : decode cX8_init 127 = .ok (.aastore, 1) := by decide +kernel
theorem dX8_init_128 : decode cX8_init 128 = .ok (.iinc 1 1, 3) := by decide +kernel
theorem dX8_init_131 : decode cX8_init 131 = .ok (.goto (-25), 3) := by decide +kernel
theorem dX8_init_134 : decode cX8_init 134 = .ok (.return_, 1) := by decide +kernel
theorem dX8_takeFrom_0 : decode cX8_takeFrom 0 = .ok (.iconst 0, 1) := by decide +kernel
theorem dX8_takeFrom_1 : decode cX8_takeFrom 1 = .ok (.istore_n 2, 1) := by decide +kernel
theorem dX8_takeFrom_2 : decode cX8_takeFrom 2 = .ok (.iload_n 2, 1) := by decide +kernel
theorem dX8_takeFrom_3 : decode cX8_takeFrom 3 = .ok (.bipush 6, 2) := by decide +kernel
theorem dX8_takeFrom_5 : decode cX8_takeFrom 5 = .ok (.if_icmp .ge 39, 3) := by decide +kernel
theorem dX8_takeFrom_8 : decode cX8_takeFrom 8 = .ok (.aload_n 0, 1) := by decide +kernel
theorem dX8_takeFrom_9 : decode cX8_takeFrom 9 = .ok (.getfield 17, 3) := by decide +kernel
theorem dX8_takeFrom_12 : decode cX8_takeFrom 12 = .ok (.iload_n 2, 1) := by decide +kernel
theorem dX8_takeFrom_13 : decode cX8_takeFrom 13 = .ok (.aaload, 1) := by decide +kernel
theorem dX8_takeFrom_14 : decode cX8_takeFrom 14 = .ok (.astore_n 3, 1) := by decide +kernel
theorem dX8_takeFrom_15 : decode cX8_takeFrom 15 = .ok (.aload_n 1, 1) := by decide +kernel
theorem dX8_takeFrom_16 : decode cX8_takeFrom 16 = .ok (.getfield 17, 3) := by decide +kernel
theorem dX8_takeFrom_19 : decode cX8_takeFrom 19 = .ok (.iload_n 2, 1) := by decide +kernel
theorem dX8_takeFrom_20 : decode cX8_takeFrom 20 = .ok (.aaload, 1) := by decide +kernel
theorem dX8_takeFrom_21 : decode cX8_takeFrom 21 = .ok (.astore 4, 2) := by decide +kernel
theorem dX8_takeFrom_23 : decode cX8_takeFrom 23 = .ok (.aload_n 3, 1) := by decide +kernel
theorem dX8_takeFrom_24 : decode cX8_takeFrom 24 = .ok (.ifnull 14, 3) := by decide +kernel
theorem dX8_takeFrom_27 : decode cX8_takeFrom 27 = .ok (.aload 4, 2) := by decide +kernel
theorem dX8_takeFrom_29 : decode cX8_takeFrom 29 = .ok (.ifnull 9, 3) := by decide +kernel
theorem dX8_takeFrom_32 : decode cX8_takeFrom 32 = .ok (.aload_n 3, 1) := by decide +kernel
theorem dX8_takeFrom_33 : decode cX8_takeFrom 33 = .ok (.aload 4, 2) := by decide +kernel
theorem dX8_takeFrom_35 : decode cX8_takeFrom 35 = .ok (.invokevirtual 66, 3) := by decide +kernel
theorem dX8_takeFrom_38 : decode cX8_takeFrom 38 = .ok (.iinc 2 1, 3) := by decide +kernel
theorem dX8_takeFrom_41 : decode cX8_takeFrom 41 = .ok (.goto (-39), 3) := by decide +kernel
theorem dX8_takeFrom_44 : decode cX8_takeFrom 44 = .ok (.aload_n 0, 1) := by decide +kernel
theorem dX8_takeFrom_45 : decode cX8_takeFrom 45 = .ok (.aload_n 1, 1) := by decide +kernel
theorem dX8_takeFrom_46 : decode cX8_takeFrom 46 = .ok (.getfield 21, 3) := by decide +kernel
theorem dX8_takeFrom_49 : decode cX8_takeFrom 49 = .ok (.putfield 21, 3) := by decide +kernel
theorem dX8_takeFrom_52 : decode cX8_takeFrom 52 = .ok (.aload_n 1, 1) := by decide +kernel
theorem dX8_takeFrom_53 : decode cX8_takeFrom 53 = .ok (.getfield 25, 3) := by decide +kernel
theorem dX8_takeFrom_56 : decode cX8_takeFrom 56 = .ok (.iconst 0, 1) := by decide +kernel
theorem dX8_takeFrom_57 : decode cX8_takeFrom 57 = .ok (.aload_n 0, 1) := by decide +kernel
theorem dX8_takeFrom_58 : decode cX8_takeFrom 58 = .ok (.getfield 25, 3) := by decide +kernel
theorem dX8_takeFrom_61 : decode cX8_takeFrom 61 = .ok (.iconst 0, 1) := by decide +kernel
theorem dX8_takeFrom_62 : decode cX8_takeFrom 62 = .ok (.bipush 12, 2) := by decide +kernel
theorem dX8_takeFrom_64 : decode cX8_takeFrom 64 = .ok (.invokestatic 70, 3) := by decide +kernel
theorem dX8_takeFrom_67 : decode cX8_takeFrom 67 = .ok (.aload_n 0, 1) := by decide +kernel
theorem dX8_takeFrom_68 : decode cX8_takeFrom 68 = .ok (.aload_n 1, 1) := by decide +kernel
theorem dX8_takeFrom_69 : decode cX8_takeFrom 69 = .ok (.getfield 29, 3) := by decide +kernel
theorem dX8_takeFrom_72 : decode cX8_takeFrom 72 = .ok (.putfield 29, 3) := by decide +kernel
theorem dX8_takeFrom_75 : decode cX8_takeFrom 75 = .ok (.aload_n 0, 1) := by decide +kernel
theorem dX8_takeFrom_76 : decode cX8_takeFrom 76 = .ok (.aload_n 1, 1) := by decide +kernel
theorem dX8_takeFrom_77 : decode cX8_takeFrom 77 = .ok (.getfield 32, 3) := by decide +kernel
theorem dX8_takeFrom_80 : decode cX8_takeFrom 80 = .ok (.putfield 32, 3) := by decide +kernel
theorem dX8_takeFrom_83 : decode cX8_takeFrom 83 = .ok (.iconst 0, 1) := by decide +kernel
theorem dX8_takeFrom_84 : decode cX8_takeFrom 84 = .ok (.istore_n 2, 1) := by decide +kernel
theorem dX8_takeFrom_85 : decode cX8_takeFrom 85 = .ok (.iload_n 2, 1) := by decide +kernel
theorem dX8_takeFrom_86 : decode cX8_takeFrom 86 = .ok (.bipush 6, 2) := by decide +kernel
theorem dX8_takeFrom_88 : decode cX8_takeFrom 88 = .ok (.if_icmp .ge 21, 3) := by decide +kernel
theorem dX8_takeFrom_91 : decode cX8_takeFrom 91 = .ok (.aload_n 0, 1) := by decide +kernel
theorem dX8_takeFrom_92 : decode cX8_takeFrom 92 = .ok (.getfield 37, 3) := by decide +kernel
theorem dX8_takeFrom_95 : decode cX8_takeFrom 95 = .ok (.iload_n 2, 1) := by decide +kernel
theorem dX8_takeFrom_96 : decode cX8_takeFrom 96 = .ok (.aload_n 1, 1) := by decide +kernel
theorem dX8_takeFrom_97 : decode cX8_takeFrom 97 = .ok (.getfield 37, 3) := by decide +kernel
theorem dX8_takeFrom_100 : decode cX8_takeFrom 100 = .ok (.iload_n 2, 1) := by decide +kernel
theorem dX8_takeFrom_101 : decode cX8_takeFrom 101 = .ok (.aaload, 1) := by decide +kernel
theorem dX8_takeFrom_102 : decode cX8_takeFrom 102 = .ok (.aastore, 1) := by decide +kernel
theorem dX8_takeFrom_103 : decode cX8_takeFrom 103 = .ok (.iinc 2 1, 3) := by decide +kernel
theorem dX8_takeFrom_106 : decode cX8_takeFrom 106 = .ok (.goto (-21), 3) := by decide +kernel
theorem dX8_takeFrom_109 : decode cX8_takeFrom 109 = .ok (.aload_n 0, 1) := by decide +kernel
theorem dX8_takeFrom_110 : decode cX8_takeFrom 110 = .ok (.aload_n 1, 1) := by decide +kernel
theorem dX8_takeFrom_111 : decode cX8_takeFrom 111 = .ok (.getfield 41, 3) := by decide +kernel
theorem dX8_takeFrom_114 : decode cX8_takeFrom 114 = .ok (.putfield 41, 3) := by decide +kernel
theorem dX8_takeFrom_117 : decode cX8_takeFrom 117 = .ok (.aload_n 0, 1) := by decide +kernel
theorem dX8_takeFrom_118 : decode cX8_takeFrom 118 = .ok (.aload_n 1, 1) := by decide +kernel
theorem dX8_takeFrom_119 : decode cX8_takeFrom 119 = .ok (.getfield 44, 3) := by decide +kernel
theorem dX8_takeFrom_122 : decode cX8_takeFrom 122 = .ok (.putfield 44, 3) := by decide +kernel
theorem dX8_takeFrom_125 : decode cX8_takeFrom 125 = .ok (.aload_n 1, 1) := by decide +kernel
theorem dX8_takeFrom_126 : decode cX8_takeFrom 126 = .ok (.getfield 47, 3) := by decide +kernel
theorem dX8_takeFrom_129 : decode cX8_takeFrom 129 = .ok (.iconst 0, 1) := by decide +kernel
theorem dX8_takeFrom_130 : decode cX8_takeFrom 130 = .ok (.aload_n 0, 1) := by decide +kernel
theorem dX8_takeFrom_131 : decode cX8_takeFrom 131 = .ok (.getfield 47, 3) := by decide +kernel
theorem dX8_takeFrom_134 : decode cX8_takeFrom 134 = .ok (.iconst 0, 1) := by decide +kernel
theorem dX8_takeFrom_135 : decode cX8_takeFrom 135 = .ok (.bipush 10, 2) := by decide +kernel
theorem dX8_takeFrom_137 : decode cX8_takeFrom 137 = .ok (.invokestatic 70, 3) := by decide +kernel
theorem dX8_takeFrom_140 : decode cX8_takeFrom 140 = .ok (.aload_n 1, 1) := by decide +kernel
theorem dX8_takeFrom_141 : decode cX8_takeFrom 141 = .ok (.getfield 50, 3) := by decide +kernel
theorem dX8_takeFrom_144 : decode cX8_takeFrom 144 = .ok (.iconst 0, 1) := by decide +kernel
theorem dX8_takeFrom_145 : decode cX8_takeFrom 145 = .ok (.aload_n 0, 1) := by decide +kernel
theorem dX8_takeFrom_146 : decode cX8_takeFrom 146 = .ok (.getfield 50, 3) := by decide +kernel
theorem dX8_takeFrom_149 : decode cX8_takeFrom 149 = .ok (.iconst 0, 1) := by decide +kernel
theorem dX8_takeFrom_150 : decode cX8_takeFrom 150 = .ok (.bipush 10, 2) := by decide +kernel
theorem dX8_takeFrom_152 : decode cX8_takeFrom 152 = .ok (.invokestatic 70, 3) := by decide +kernel
theorem dX8_takeFrom_155 : decode cX8_takeFrom 155 = .ok (.aload_n 1, 1) := by decide +kernel
theorem dX8_takeFrom_156 : decode cX8_takeFrom 156 = .ok (.getfield 53, 3) := by decide +kernel
theorem dX8_takeFrom_159 : decode cX8_takeFrom 159 = .ok (.iconst 0, 1) := by decide +kernel
theorem dX8_takeFrom_160 : decode cX8_takeFrom 160 = .ok (.aload_n 0, 1) := by decide +kernel
theorem dX8_takeFrom_161 : decode cX8_takeFrom 161 = .ok (.getfield 53, 3) := by decide +kernel
theorem dX8_takeFrom_164 : decode cX8_takeFrom 164 = .ok (.iconst 0, 1) := by decide +kernel
theorem dX8_takeFrom_165 : decode cX8_takeFrom 165 = .ok (.bipush 10, 2) := by decide +kernel
theorem dX8_takeFrom_167 : decode cX8_takeFrom 167 = .ok (.invokestatic 70, 3) := by decide +kernel
theorem dX8_takeFrom_170 : decode cX8_takeFrom 170 = .ok (.aload_n 0, 1) := by decide +kernel
theorem dX8_takeFrom_171 : decode cX8_takeFrom 171 = .ok (.aload_n 1, 1) := by decide +kernel
theorem dX8_takeFrom_172 : decode cX8_takeFrom 172 = .ok (.getfield 56, 3) := by decide +kernel
theorem dX8_takeFrom_175 : decode cX8_takeFrom 175 = .ok (.putfield 56, 3) := by decide +kernel
theorem dX8_takeFrom_178 : decode cX8_takeFrom 178 = .ok (.aload_n 1, 1) := by decide +kernel
theorem dX8_takeFrom_179 : decode cX8_takeFrom 179 = .ok (.getfield 59, 3) := by decide +kernel
theorem dX8_takeFrom_182 : decode cX8_takeFrom 182 = .ok (.iconst 0, 1) := by decide +kernel
theorem dX8_takeFrom_183 : decode cX8_takeFrom 183 = .ok (.aload_n 0, 1) := by decide +kernel
theorem dX8_takeFrom_184 : decode cX8_takeFrom 184 = .ok (.getfield 59, 3) := by decide +kernel
theorem dX8_takeFrom_187 : decode cX8_takeFrom 187 = .ok (.iconst 0, 1) := by decide +kernel
theorem dX8_takeFrom_188 : decode cX8_takeFrom 188 = .ok (.bipush 24, 2) := by decide +kernel
theorem dX8_takeFrom_190 : decode cX8_takeFrom 190 = .ok (.invokestatic 70, 3) := by decide +kernel
theorem dX8_takeFrom_193 : decode cX8_takeFrom 193 = .ok (.aload_n 0, 1) := by decide +kernel
theorem dX8_takeFrom_194 : decode cX8_takeFrom 194 = .ok (.aload_n 1, 1) := by decide +kernel
theorem dX8_takeFrom_195 : decode cX8_takeFrom 195 = .ok (.getfield 62, 3) := by decide +kernel
theorem dX8_takeFrom_198 : decode cX8_takeFrom 198 = .ok (.putfield 62, 3) := by decide +kernel
theorem dX8_takeFrom_201 : decode cX8_takeFrom 201 = .ok (.return_, 1) := by decide +kernel
theorem dX8_newHand_0 : decode cX8_newHand 0 = .ok (.aload_n 0, 1) := by decide +kernel
theorem dX8_newHand_1 : decode cX8_newHand 1 = .ok (.getfield 21, 3) := by decide +kernel
theorem dX8_newHand_4 : decode cX8_newHand 4 = .ok (.ifCond .lt 27, 3) := by decide +kernel
theorem dX8_newHand_7 : decode cX8_newHand 7 = .ok (.aload_n 0, 1) := by decide +kernel
theorem dX8_newHand_8 : decode cX8_newHand 8 = .ok (.getfield 21, 3) := by decide +kernel
theorem dX8_newHand_11 : decode cX8_newHand 11 = .ok (.aload_n 0, 1) := by decide +kernel
theorem dX8_newHand_12 : decode cX8_newHand 12 = .ok (.getfield 17, 3) := by decide +kernel
theorem dX8_newHand_15 : decode cX8_newHand 15 = .ok (.arraylength, 1) := by decide +kernel
theorem dX8_newHand_16 : decode cX8_newHand 16 = .ok (.if_icmp .ge 15, 3) := by decide +kernel
theorem dX8_newHand_19 : decode cX8_newHand 19 = .ok (.aload_n 0, 1) := by decide +kernel
theorem dX8_newHand_20 : decode cX8_newHand 20 = .ok (.getfield 17, 3) := by decide +kernel
theorem dX8_newHand_23 : decode cX8_newHand 23 = .ok (.aload_n 0, 1) := by decide +kernel
theorem dX8_newHand_24 : decode cX8_newHand 24 = .ok (.getfield 21, 3) := by decide +kernel
theorem dX8_newHand_27 : decode cX8_newHand 27 = .ok (.aaload, 1) := by decide +kernel
theorem dX8_newHand_28 : decode cX8_newHand 28 = .ok (.goto 4, 3) := by decide +kernel
theorem dX8_newHand_31 : decode cX8_newHand 31 = .ok (.aconst_null, 1) := by decide +kernel
theorem dX8_newHand_32 : decode cX8_newHand 32 = .ok (.astore_n 2, 1) := by decide +kernel
theorem dX8_newHand_33 : decode cX8_newHand 33 = .ok (.aload_n 2, 1) := by decide +kernel
theorem dX8_newHand_34 : decode cX8_newHand 34 = .ok (.ifnonnull 5, 3) := by decide +kernel
theorem dX8_newHand_37 : decode cX8_newHand 37 = .ok (.iconst (-1), 1) := by decide +kernel
theorem dX8_newHand_38 : decode cX8_newHand 38 = .ok (.ireturn, 1) := by decide +kernel
theorem dX8_newHand_39 : decode cX8_newHand 39 = .ok (.aload_n 2, 1) := by decide +kernel
theorem dX8_newHand_40 : decode cX8_newHand 40 = .ok (.iload_n 1, 1) := by decide +kernel
theorem dX8_newHand_41 : decode cX8_newHand 41 = .ok (.invokevirtual 76, 3) := by decide +kernel
theorem dX8_newHand_44 : decode cX8_newHand 44 = .ok (.aload_n 0, 1) := by decide +kernel
theorem dX8_newHand_45 : decode cX8_newHand 45 = .ok (.dup, 1) := by decide +kernel
theorem dX8_newHand_46 : decode cX8_newHand 46 = .ok (.getfield 21, 3) := by decide +kernel
theorem dX8_newHand_49 : decode cX8_newHand 49 = .ok (.iconst 1, 1) := by decide +kernel
theorem dX8_newHand_50 : decode cX8_newHand 50 = .ok (.iadd, 1) := by decide +kernel
theorem dX8_newHand_51 : decode cX8_newHand 51 = .ok (.putfield 21, 3) := by decide +kernel
theorem dX8_newHand_54 : decode cX8_newHand 54 = .ok (.aload_n 0, 1) := by decide +kernel
theorem dX8_newHand_55 : decode cX8_newHand 55 = .ok (.getfield 21, 3) := by decide +kernel
theorem dX8_newHand_58 : decode cX8_newHand 58 = .ok (.iconst 1, 1) := by decide +kernel
theorem dX8_newHand_59 : decode cX8_newHand 59 = .ok (.isub, 1) := by decide +kernel
theorem dX8_newHand_60 : decode cX8_newHand 60 = .ok (.ireturn, 1) := by decide +kernel
theorem dX8_handAt_0 : decode cX8_handAt 0 = .ok (.iload_n 1, 1) := by decide +kernel
theorem dX8_handAt_1 : decode cX8_handAt 1 = .ok (.ifCond .lt 29, 3) := by decide +kernel
theorem dX8_handAt_4 : decode cX8_handAt 4 = .ok (.iload_n 1, 1) := by decide +kernel
theorem dX8_handAt_5 : decode cX8_handAt 5 = .ok (.aload_n 0, 1) := by decide +kernel
theorem dX8_handAt_6 : decode cX8_handAt 6 = .ok (.getfield 21, 3) := by decide +kernel
theorem dX8_handAt_9 : decode cX8_handAt 9 = .ok (.if_icmp .ge 21, 3) := by decide +kernel
theorem dX8_handAt_12 : decode cX8_handAt 12 = .ok (.iload_n 1, 1) := by decide +kernel
theorem dX8_handAt_13 : decode cX8_handAt 13 = .ok (.aload_n 0, 1) := by decide +kernel
theorem dX8_handAt_14 : decode cX8_handAt 14 = .ok (.getfield 17, 3) := by decide +kernel
theorem dX8_handAt_17 : decode cX8_handAt 17 = .ok (.arraylength, 1) := by decide +kernel
theorem dX8_handAt_18 : decode cX8_handAt 18 = .ok (.if_icmp .ge 12, 3) := by decide +kernel
theorem dX8_handAt_21 : decode cX8_handAt 21 = .ok (.aload_n 0, 1) := by decide +kernel
theorem dX8_handAt_22 : decode cX8_handAt 22 = .ok (.getfield 17, 3) := by decide +kernel
theorem dX8_handAt_25 : decode cX8_handAt 25 = .ok (.iload_n 1, 1) := by decide +kernel
theorem dX8_handAt_26 : decode cX8_handAt 26 = .ok (.aaload, 1) := by decide +kernel
theorem dX8_handAt_27 : decode cX8_handAt 27 = .ok (.goto 4, 3) := by decide +kernel
theorem dX8_handAt_30 : decode cX8_handAt 30 = .ok (.aconst_null, 1) := by decide +kernel
theorem dX8_handAt_31 : decode cX8_handAt 31 = .ok (.areturn, 1) := by decide +kernel
theorem dX8_newWheel_0 : decode cX8_newWheel 0 = .ok (.aload_n 0, 1) := by decide +kernel
theorem dX8_newWheel_1 : decode cX8_newWheel 1 = .ok (.getfield 29, 3) := by decide +kernel
theorem dX8_newWheel_4 : decode cX8_newWheel 4 = .ok (.ifCond .lt 15, 3) := by decide +kernel
theorem dX8_newWheel_7 : decode cX8_newWheel 7 = .ok (.aload_n 0, 1) := by decide +kernel
theorem dX8_newWheel_8 : decode cX8_newWheel 8 = .ok (.getfield 29, 3) := by decide +kernel
theorem dX8_newWheel_11 : decode cX8_newWheel 11 = .ok (.aload_n 0, 1) := by decide +kernel
theorem dX8_newWheel_12 : decode cX8_newWheel 12 = .ok (.getfield 25, 3) := by decide +kernel
theorem dX8_newWheel_15 : decode cX8_newWheel 15 = .ok (.arraylength, 1) := by decide +kernel
theorem dX8_newWheel_16 : decode cX8_newWheel 16 = .ok (.if_icmp .lt 5, 3) := by decide +kernel
theorem dX8_newWheel_19 : decode cX8_newWheel 19 = .ok (.iconst (-1), 1) := by decide +kernel
theorem dX8_newWheel_20 : decode cX8_newWheel 20 = .ok (.ireturn, 1) := by decide +kernel
theorem dX8_newWheel_21 : decode cX8_newWheel 21 = .ok (.aload_n 0, 1) := by decide +kernel
theorem dX8_newWheel_22 : decode cX8_newWheel 22 = .ok (.getfield 25, 3) := by decide +kernel
theorem dX8_newWheel_25 : decode cX8_newWheel 25 = .ok (.aload_n 0, 1) := by decide +kernel
theorem dX8_newWheel_26 : decode cX8_newWheel 26 = .ok (.getfield 29, 3) := by decide +kernel
theorem dX8_newWheel_29 : decode cX8_newWheel 29 = .ok (.iload_n 1, 1) := by decide +kernel
theorem dX8_newWheel_30 : decode cX8_newWheel 30 = .ok (.iastore, 1) := by decide +kernel
theorem dX8_newWheel_31 : decode cX8_newWheel 31 = .ok (.aload_n 0, 1) := by decide +kernel
theorem dX8_newWheel_32 : decode cX8_newWheel 32 = .ok (.dup, 1) := by decide +kernel
theorem dX8_newWheel_33 : decode cX8_newWheel 33 = .ok (.getfield 29, 3) := by decide +kernel
theorem dX8_newWheel_36 : decode cX8_newWheel 36 = .ok (.iconst 1, 1) := by decide +kernel
theorem dX8_newWheel_37 : decode cX8_newWheel 37 = .ok (.iadd, 1) := by decide +kernel
theorem dX8_newWheel_38 : decode cX8_newWheel 38 = .ok (.putfield 29, 3) := by decide +kernel
theorem dX8_newWheel_41 : decode cX8_newWheel 41 = .ok (.aload_n 0, 1) := by decide +kernel
theorem dX8_newWheel_42 : decode cX8_newWheel 42 = .ok (.getfield 29, 3) := by decide +kernel
theorem dX8_newWheel_45 : decode cX8_newWheel 45 = .ok (.iconst 1, 1) := by decide +kernel
theorem dX8_newWheel_46 : decode cX8_newWheel 46 = .ok (.isub, 1) := by decide +kernel
theorem dX8_newWheel_47 : decode cX8_newWheel 47 = .ok (.ireturn, 1) := by decide +kernel
theorem dX8_wheelAt_0 : decode cX8_wheelAt 0 = .ok (.iload_n 1, 1) := by decide +kernel
theorem dX8_wheelAt_1 : decode cX8_wheelAt 1 = .ok (.ifCond .lt 29, 3) := by decide +kernel
theorem dX8_wheelAt_4 : decode cX8_wheelAt 4 = .ok (.iload_n 1, 1) := by decide +kernel
theorem dX8_wheelAt_5 : decode cX8_wheelAt 5 = .ok (.aload_n 0, 1) := by decide +kernel
theorem dX8_wheelAt_6 : decode cX8_wheelAt 6 = .ok (.getfield 29, 3) := by decide +kernel
theorem dX8_wheelAt_9 : decode cX8_wheelAt 9 = .ok (.if_icmp .ge 21, 3) := by decide +kernel
theorem dX8_wheelAt_12 : decode cX8_wheelAt 12 = .ok (.iload_n 1, 1) := by decide +kernel
theorem dX8_wheelAt_13 : decode cX8_wheelAt 13 = .ok (.aload_n 0, 1) := by decide +kernel
theorem dX8_wheelAt_14 : decode cX8_wheelAt 14 = .ok (.getfield 25, 3) := by decide +kernel
theorem dX8_wheelAt_17 : decode cX8_wheelAt 17 = .ok (.arraylength, 1) := by decide +kernel
theorem dX8_wheelAt_18 : decode cX8_wheelAt 18 = .ok (.if_icmp .ge 12, 3) := by decide +kernel
theorem dX8_wheelAt_21 : decode cX8_wheelAt 21 = .ok (.aload_n 0, 1) := by decide +kernel
theorem dX8_wheelAt_22 : decode cX8_wheelAt 22 = .ok (.getfield 25, 3) := by decide +kernel
theorem dX8_wheelAt_25 : decode cX8_wheelAt 25 = .ok (.iload_n 1, 1) := by decide +kernel
theorem dX8_wheelAt_26 : decode cX8_wheelAt 26 = .ok (.iaload, 1) := by decide +kernel
theorem dX8_wheelAt_27 : decode cX8_wheelAt 27 = .ok (.goto 4, 3) := by decide +kernel
theorem dX8_wheelAt_30 : decode cX8_wheelAt 30 = .ok (.iconst (-1), 1) := by decide +kernel
theorem dX8_wheelAt_31 : decode cX8_wheelAt 31 = .ok (.ireturn, 1) := by decide +kernel
theorem dX8_loseWheel_0 : decode cX8_loseWheel 0 = .ok (.iload_n 1, 1) := by decide +kernel
theorem dX8_loseWheel_1 : decode cX8_loseWheel 1 = .ok (.ifCond .lt 11, 3) := by decide +kernel
theorem dX8_loseWheel_4 : decode cX8_loseWheel 4 = .ok (.iload_n 1, 1) := by decide +kernel
theorem dX8_loseWheel_5 : decode cX8_loseWheel 5 = .ok (.aload_n 0, 1) := by decide +kernel
theorem dX8_loseWheel_6 : decode cX8_loseWheel 6 = .ok (.getfield 29, 3) := by decide +kernel
theorem dX8_loseWheel_9 : decode cX8_loseWheel 9 = .ok (.if_icmp .lt 5, 3) := by decide +kernel
theorem dX8_loseWheel_12 : decode cX8_loseWheel 12 = .ok (.iconst 0, 1) := by decide +kernel
theorem dX8_loseWheel_13 : decode cX8_loseWheel 13 = .ok (.ireturn, 1) := by decide +kernel
theorem dX8_loseWheel_14 : decode cX8_loseWheel 14 = .ok (.iload_n 1, 1) := by decide +kernel
theorem dX8_loseWheel_15 : decode cX8_loseWheel 15 = .ok (.istore_n 2, 1) := by decide +kernel
theorem dX8_loseWheel_16 : decode cX8_loseWheel 16 = .ok (.iload_n 2, 1) := by decide +kernel
theorem dX8_loseWheel_17 : decode cX8_loseWheel 17 = .ok (.iconst 1, 1) := by decide +kernel
theorem dX8_loseWheel_18 : decode cX8_loseWheel 18 = .ok (.iadd, 1) := by decide +kernel
theorem dX8_loseWheel_19 : decode cX8_loseWheel 19 = .ok (.aload_n 0, 1) := by decide +kernel
theorem dX8_loseWheel_20 : decode cX8_loseWheel 20 = .ok (.getfield 29, 3) := by decide +kernel
theorem dX8_loseWheel_23 : decode cX8_loseWheel 23 = .ok (.if_icmp .ge 34, 3) := by decide +kernel
theorem dX8_loseWheel_26 : decode cX8_loseWheel 26 = .ok (.iload_n 2, 1) := by decide +kernel
theorem dX8_loseWheel_27 : decode cX8_loseWheel 27 = .ok (.iconst 1, 1) := by decide +kernel
theorem dX8_loseWheel_28 : decode cX8_loseWheel 28 = .ok (.iadd, 1) := by decide +kernel
theorem dX8_loseWheel_29 : decode cX8_loseWheel 29 = .ok (.aload_n 0, 1) := by decide +kernel
theorem dX8_loseWheel_30 : decode cX8_loseWheel 30 = .ok (.getfield 25, 3) := by decide +kernel
theorem dX8_loseWheel_33 : decode cX8_loseWheel 33 = .ok (.arraylength, 1) := by decide +kernel
theorem dX8_loseWheel_34 : decode cX8_loseWheel 34 = .ok (.if_icmp .ge 23, 3) := by decide +kernel
theorem dX8_loseWheel_37 : decode cX8_loseWheel 37 = .ok (.aload_n 0, 1) := by decide +kernel
theorem dX8_loseWheel_38 : decode cX8_loseWheel 38 = .ok (.getfield 25, 3) := by decide +kernel
theorem dX8_loseWheel_41 : decode cX8_loseWheel 41 = .ok (.iload_n 2, 1) := by decide +kernel
theorem dX8_loseWheel_42 : decode cX8_loseWheel 42 = .ok (.aload_n 0, 1) := by decide +kernel
theorem dX8_loseWheel_43 : decode cX8_loseWheel 43 = .ok (.getfield 25, 3) := by decide +kernel
theorem dX8_loseWheel_46 : decode cX8_loseWheel 46 = .ok (.iload_n 2, 1) := by decide +kernel
theorem dX8_loseWheel_47 : decode cX8_loseWheel 47 = .ok (.iconst 1, 1) := by decide +kernel
theorem dX8_loseWheel_48 : decode cX8_loseWheel 48 = .ok (.iadd, 1) := by decide +kernel
theorem dX8_loseWheel_49 : decode cX8_loseWheel 49 = .ok (.iaload, 1) := by decide +kernel
theorem dX8_loseWheel_50 : decode cX8_loseWheel 50 = .ok (.iastore, 1) := by decide +kernel
theorem dX8_loseWheel_51 : decode cX8_loseWheel 51 = .ok (.iinc 2 1, 3) := by decide +kernel
theorem dX8_loseWheel_54 : decode cX8_loseWheel 54 = .ok (.goto (-38), 3) := by decide +kernel
theorem dX8_loseWheel_57 : decode cX8_loseWheel 57 = .ok (.aload_n 0, 1) := by decide +kernel
theorem dX8_loseWheel_58 : decode cX8_loseWheel 58 = .ok (.dup, 1) := by decide +kernel
theorem dX8_loseWheel_59 : decode cX8_loseWheel 59 = .ok (.getfield 29, 3) := by decide +kernel
theorem dX8_loseWheel_62 : decode cX8_loseWheel 62 = .ok (.iconst 1, 1) := by decide +kernel
theorem dX8_loseWheel_63 : decode cX8_loseWheel 63 = .ok (.isub, 1) := by decide +kernel
theorem dX8_loseWheel_64 : decode cX8_loseWheel 64 = .ok (.putfield 29, 3) := by decide +kernel
theorem dX8_loseWheel_67 : decode cX8_loseWheel 67 = .ok (.iconst 1, 1) := by decide +kernel
theorem dX8_loseWheel_68 : decode cX8_loseWheel 68 = .ok (.ireturn, 1) := by decide +kernel
theorem dX8_newLaw_0 : decode cX8_newLaw 0 = .ok (.aload_n 0, 1) := by decide +kernel
theorem dX8_newLaw_1 : decode cX8_newLaw 1 = .ok (.getfield 41, 3) := by decide +kernel
theorem dX8_newLaw_4 : decode cX8_newLaw 4 = .ok (.ifCond .lt 15, 3) := by decide +kernel
theorem dX8_newLaw_7 : decode cX8_newLaw 7 = .ok (.aload_n 0, 1) := by decide +kernel
theorem dX8_newLaw_8 : decode cX8_newLaw 8 = .ok (.getfield 41, 3) := by decide +kernel
theorem dX8_newLaw_11 : decode cX8_newLaw 11 = .ok (.aload_n 0, 1) := by decide +kernel
theorem dX8_newLaw_12 : decode cX8_newLaw 12 = .ok (.getfield 37, 3) := by decide +kernel
theorem dX8_newLaw_15 : decode cX8_newLaw 15 = .ok (.arraylength, 1) := by decide +kernel
theorem dX8_newLaw_16 : decode cX8_newLaw 16 = .ok (.if_icmp .lt 5, 3) := by decide +kernel
theorem dX8_newLaw_19 : decode cX8_newLaw 19 = .ok (.iconst (-1), 1) := by decide +kernel
theorem dX8_newLaw_20 : decode cX8_newLaw 20 = .ok (.ireturn, 1) := by decide +kernel
theorem dX8_newLaw_21 : decode cX8_newLaw 21 = .ok (.aload_n 0, 1) := by decide +kernel
theorem dX8_newLaw_22 : decode cX8_newLaw 22 = .ok (.getfield 37, 3) := by decide +kernel
theorem dX8_newLaw_25 : decode cX8_newLaw 25 = .ok (.aload_n 0, 1) := by decide +kernel
theorem dX8_newLaw_26 : decode cX8_newLaw 26 = .ok (.getfield 41, 3) := by decide +kernel
theorem dX8_newLaw_29 : decode cX8_newLaw 29 = .ok (.aload_n 1, 1) := by decide +kernel
theorem dX8_newLaw_30 : decode cX8_newLaw 30 = .ok (.aastore, 1) := by decide +kernel
theorem dX8_newLaw_31 : decode cX8_newLaw 31 = .ok (.aload_n 0, 1) := by decide +kernel
theorem dX8_newLaw_32 : decode cX8_newLaw 32 = .ok (.dup, 1) := by decide +kernel
theorem dX8_newLaw_33 : decode cX8_newLaw 33 = .ok (.getfield 41, 3) := by decide +kernel
theorem dX8_newLaw_36 : decode cX8_newLaw 36 = .ok (.iconst 1, 1) := by decide +kernel
theorem dX8_newLaw_37 : decode cX8_newLaw 37 = .ok (.iadd, 1) := by decide +kernel
theorem dX8_newLaw_38 : decode cX8_newLaw 38 = .ok (.putfield 41, 3) := by decide +kernel
theorem dX8_newLaw_41 : decode cX8_newLaw 41 = .ok (.aload_n 0, 1) := by decide +kernel
theorem dX8_newLaw_42 : decode cX8_newLaw 42 = .ok (.getfield 41, 3) := by decide +kernel
theorem dX8_newLaw_45 : decode cX8_newLaw 45 = .ok (.iconst 1, 1) := by decide +kernel
theorem dX8_newLaw_46 : decode cX8_newLaw 46 = .ok (.isub, 1) := by decide +kernel
theorem dX8_newLaw_47 : decode cX8_newLaw 47 = .ok (.ireturn, 1) := by decide +kernel
theorem dX8_lawInForce_0 : decode cX8_lawInForce 0 = .ok (.aload_n 0, 1) := by decide +kernel
theorem dX8_lawInForce_1 : decode cX8_lawInForce 1 = .ok (.getfield 44, 3) := by decide +kernel
theorem dX8_lawInForce_4 : decode cX8_lawInForce 4 = .ok (.ifCond .lt 38, 3) := by decide +kernel
theorem dX8_lawInForce_7 : decode cX8_lawInForce 7 = .ok (.aload_n 0, 1) := by decide +kernel
theorem dX8_lawInForce_8 : decode cX8_lawInForce 8 = .ok (.getfield 44, 3) := by decide +kernel
theorem dX8_lawInForce_11 : decode cX8_lawInForce 11 = .ok (.aload_n 0, 1) := by decide +kernel
theorem dX8_lawInForce_12 : decode cX8_lawInForce 12 = .ok (.getfield 41, 3) := by decide +kernel
theorem dX8_lawInForce_15 : decode cX8_lawInForce 15 = .ok (.if_icmp .ge 27, 3) := by decide +kernel
theorem dX8_lawInForce_18 : decode cX8_lawInForce 18 = .ok (.aload_n 0, 1) := by decide +kernel
theorem dX8_lawInForce_19 : decode cX8_lawInForce 19 = .ok (.getfield 44, 3) := by decide +kernel
theorem dX8_lawInForce_22 : decode cX8_lawInForce 22 = .ok (.aload_n 0, 1) := by decide +kernel
theorem dX8_lawInForce_23 : decode cX8_lawInForce 23 = .ok (.getfield 37, 3) := by decide +kernel
theorem dX8_lawInForce_26 : decode cX8_lawInForce 26 = .ok (.arraylength, 1) := by decide +kernel
theorem dX8_lawInForce_27 : decode cX8_lawInForce 27 = .ok (.if_icmp .ge 15, 3) := by decide +kernel
theorem dX8_lawInForce_30 : decode cX8_lawInForce 30 = .ok (.aload_n 0, 1) := by decide +kernel
theorem dX8_lawInForce_31 : decode cX8_lawInForce 31 = .ok (.getfield 37, 3) := by decide +kernel
theorem dX8_lawInForce_34 : decode cX8_lawInForce 34 = .ok (.aload_n 0, 1) := by decide +kernel
theorem dX8_lawInForce_35 : decode cX8_lawInForce 35 = .ok (.getfield 44, 3) := by decide +kernel
theorem dX8_lawInForce_38 : decode cX8_lawInForce 38 = .ok (.aaload, 1) := by decide +kernel
theorem dX8_lawInForce_39 : decode cX8_lawInForce 39 = .ok (.goto 4, 3) := by decide +kernel
theorem dX8_lawInForce_42 : decode cX8_lawInForce 42 = .ok (.aconst_null, 1) := by decide +kernel
theorem dX8_lawInForce_43 : decode cX8_lawInForce 43 = .ok (.areturn, 1) := by decide +kernel
theorem dX8_newSight_0 : decode cX8_newSight 0 = .ok (.aload_n 0, 1) := by decide +kernel
theorem dX8_newSight_1 : decode cX8_newSight 1 = .ok (.getfield 56, 3) := by decide +kernel
theorem dX8_newSight_4 : decode cX8_newSight 4 = .ok (.ifCond .lt 12, 3) := by decide +kernel
theorem dX8_newSight_7 : decode cX8_newSight 7 = .ok (.aload_n 0, 1) := by decide +kernel
theorem dX8_newSight_8 : decode cX8_newSight 8 = .ok (.getfield 56, 3) := by decide +kernel
theorem dX8_newSight_11 : decode cX8_newSight 11 = .ok (.bipush 10, 2) := by decide +kernel
theorem dX8_newSight_13 : decode cX8_newSight 13 = .ok (.if_icmp .lt 5, 3) := by decide +kernel
theorem dX8_newSight_16 : decode cX8_newSight 16 = .ok (.iconst 0, 1) := by decide +kernel
theorem dX8_newSight_17 : decode cX8_newSight 17 = .ok (.ireturn, 1) := by decide +kernel
theorem dX8_newSight_18 : decode cX8_newSight 18 = .ok (.aload_n 0, 1) := by decide +kernel
theorem dX8_newSight_19 : decode cX8_newSight 19 = .ok (.getfield 47, 3) := by decide +kernel
theorem dX8_newSight_22 : decode cX8_newSight 22 = .ok (.aload_n 0, 1) := by decide +kernel
theorem dX8_newSight_23 : decode cX8_newSight 23 = .ok (.getfield 56, 3) := by decide +kernel
theorem dX8_newSight_26 : decode cX8_newSight 26 = .ok (.iload_n 1, 1) := by decide +kernel
theorem dX8_newSight_27 : decode cX8_newSight 27 = .ok (.iastore, 1) := by decide +kernel
theorem dX8_newSight_28 : decode cX8_newSight 28 = .ok (.aload_n 0, 1) := by decide +kernel
theorem dX8_newSight_29 : decode cX8_newSight 29 = .ok (.getfield 50, 3) := by decide +kernel
theorem dX8_newSight_32 : decode cX8_newSight 32 = .ok (.aload_n 0, 1) := by decide +kernel
theorem dX8_newSight_33 : decode cX8_newSight 33 = .ok (.getfield 56, 3) := by decide +kernel
theorem dX8_newSight_36 : decode cX8_newSight 36 = .ok (.iload_n 2, 1) := by decide +kernel
theorem dX8_newSight_37 : decode cX8_newSight 37 = .ok (.iastore, 1) := by decide +kernel
theorem dX8_newSight_38 : decode cX8_newSight 38 = .ok (.aload_n 0, 1) := by decide +kernel
theorem dX8_newSight_39 : decode cX8_newSight 39 = .ok (.getfield 53, 3) := by decide +kernel
theorem dX8_newSight_42 : decode cX8_newSight 42 = .ok (.aload_n 0, 1) := by decide +kernel
theorem dX8_newSight_43 : decode cX8_newSight 43 = .ok (.getfield 56, 3) := by decide +kernel
theorem dX8_newSight_46 : decode cX8_newSight 46 = .ok (.iload_n 3, 1) := by decide +kernel
theorem dX8_newSight_47 : decode cX8_newSight 47 = .ok (.iastore, 1) := by decide +kernel
theorem dX8_newSight_48 : decode cX8_newSight 48 = .ok (.aload_n 0, 1) := by decide +kernel
theorem dX8_newSight_49 : decode cX8_newSight 49 = .ok (.dup, 1) := by decide +kernel
theorem dX8_newSight_50 : decode cX8_newSight 50 = .ok (.getfield 56, 3) := by decide +kernel
theorem dX8_newSight_53 : decode cX8_newSight 53 = .ok (.iconst 1, 1) := by decide +kernel
theorem dX8_newSight_54 : decode cX8_newSight 54 = .ok (.iadd, 1) := by decide +kernel
theorem dX8_newSight_55 : decode cX8_newSight 55 = .ok (.putfield 56, 3) := by decide +kernel
theorem dX8_newSight_58 : decode cX8_newSight 58 = .ok (.iconst 1, 1) := by decide +kernel
theorem dX8_newSight_59 : decode cX8_newSight 59 = .ok (.ireturn, 1) := by decide +kernel
theorem dX8_sightHandAt_0 : decode cX8_sightHandAt 0 = .ok (.iload_n 1, 1) := by decide +kernel
theorem dX8_sightHandAt_1 : decode cX8_sightHandAt 1 = .ok (.ifCond .lt 21, 3) := by decide +kernel
theorem dX8_sightHandAt_4 : decode cX8_sightHandAt 4 = .ok (.iload_n 1, 1) := by decide +kernel
theorem dX8_sightHandAt_5 : decode cX8_sightHandAt 5 = .ok (.aload_n 0, 1) := by decide +kernel
theorem dX8_sightHandAt_6 : decode cX8_sightHandAt 6 = .ok (.getfield 47, 3) := by decide +kernel
theorem dX8_sightHandAt_9 : decode cX8_sightHandAt 9 = .ok (.arraylength, 1) := by decide +kernel
theorem dX8_sightHandAt_10 : decode cX8_sightHandAt 10 = .ok (.if_icmp .ge 12, 3) := by decide +kernel
theorem dX8_sightHandAt_13 : decode cX8_sightHandAt 13 = .ok (.aload_n 0, 1) := by decide +kernel
theorem dX8_sightHandAt_14 : decode cX8_sightHandAt 14 = .ok (.getfield 47, 3) := by decide +kernel
theorem dX8_sightHandAt_17 : decode cX8_sightHandAt 17 = .ok (.iload_n 1, 1) := by decide +kernel
theorem dX8_sightHandAt_18 : decode cX8_sightHandAt 18 = .ok (.iaload, 1) := by decide +kernel
theorem dX8_sightHandAt_19 : decode cX8_sightHandAt 19 = .ok (.goto 4, 3) := by decide +kernel
theorem dX8_sightHandAt_22 : decode cX8_sightHandAt 22 = .ok (.iconst (-1), 1) := by decide +kernel
theorem dX8_sightHandAt_23 : decode cX8_sightHandAt 23 = .ok (.ireturn, 1) := by decide +kernel
theorem dX8_sightDayAt_0 : decode cX8_sightDayAt 0 = .ok (.iload_n 1, 1) := by decide +kernel
theorem dX8_sightDayAt_1 : decode cX8_sightDayAt 1 = .ok (.ifCond .lt 21, 3) := by decide +kernel
theorem dX8_sightDayAt_4 : decode cX8_sightDayAt 4 = .ok (.iload_n 1, 1) := by decide +kernel
theorem dX8_sightDayAt_5 : decode cX8_sightDayAt 5 = .ok (.aload_n 0, 1) := by decide +kernel
theorem dX8_sightDayAt_6 : decode cX8_sightDayAt 6 = .ok (.getfield 50, 3) := by decide +kernel
theorem dX8_sightDayAt_9 : decode cX8_sightDayAt 9 = .ok (.arraylength, 1) := by decide +kernel
theorem dX8_sightDayAt_10 : decode cX8_sightDayAt 10 = .ok (.if_icmp .ge 12, 3) := by decide +kernel
theorem dX8_sightDayAt_13 : decode cX8_sightDayAt 13 = .ok (.aload_n 0, 1) := by decide +kernel
theorem dX8_sightDayAt_14 : decode cX8_sightDayAt 14 = .ok (.getfield 50, 3) := by decide +kernel
theorem dX8_sightDayAt_17 : decode cX8_sightDayAt 17 = .ok (.iload_n 1, 1) := by decide +kernel
theorem dX8_sightDayAt_18 : decode cX8_sightDayAt 18 = .ok (.iaload, 1) := by decide +kernel
theorem dX8_sightDayAt_19 : decode cX8_sightDayAt 19 = .ok (.goto 4, 3) := by decide +kernel
theorem dX8_sightDayAt_22 : decode cX8_sightDayAt 22 = .ok (.iconst 0, 1) := by decide +kernel
theorem dX8_sightDayAt_23 : decode cX8_sightDayAt 23 = .ok (.ireturn, 1) := by decide +kernel
theorem dX8_sightMarkAt_0 : decode cX8_sightMarkAt 0 = .ok (.iload_n 1, 1) := by decide +kernel
theorem dX8_sightMarkAt_1 : decode cX8_sightMarkAt 1 = .ok (.ifCond .lt 21, 3) := by decide +kernel
theorem dX8_sightMarkAt_4 : decode cX8_sightMarkAt 4 = .ok (.iload_n 1, 1) := by decide +kernel
theorem dX8_sightMarkAt_5 : decode cX8_sightMarkAt 5 = .ok (.aload_n 0, 1) := by decide +kernel
theorem dX8_sightMarkAt_6 : decode cX8_sightMarkAt 6 = .ok (.getfield 53, 3) := by decide +kernel
theorem dX8_sightMarkAt_9 : decode cX8_sightMarkAt 9 = .ok (.arraylength, 1) := by decide +kernel
theorem dX8_sightMarkAt_10 : decode cX8_sightMarkAt 10 = .ok (.if_icmp .ge 12, 3) := by decide +kernel
theorem dX8_sightMarkAt_13 : decode cX8_sightMarkAt 13 = .ok (.aload_n 0, 1) := by decide +kernel
theorem dX8_sightMarkAt_14 : decode cX8_sightMarkAt 14 = .ok (.getfield 53, 3) := by decide +kernel
theorem dX8_sightMarkAt_17 : decode cX8_sightMarkAt 17 = .ok (.iload_n 1, 1) := by decide +kernel
theorem dX8_sightMarkAt_18 : decode cX8_sightMarkAt 18 = .ok (.iaload, 1) := by decide +kernel
theorem dX8_sightMarkAt_19 : decode cX8_sightMarkAt 19 = .ok (.goto 4, 3) := by decide +kernel
theorem dX8_sightMarkAt_22 : decode cX8_sightMarkAt 22 = .ok (.iconst (-1), 1) := by decide +kernel
theorem dX8_sightMarkAt_23 : decode cX8_sightMarkAt 23 = .ok (.ireturn, 1) := by decide +kernel
theorem dX8_pushOf_0 : decode cX8_pushOf 0 = .ok (.iload_n 1, 1) := by decide +kernel
theorem dX8_pushOf_1 : decode cX8_pushOf 1 = .ok (.bipush 6, 2) := by decide +kernel
theorem dX8_pushOf_3 : decode cX8_pushOf 3 = .ok (.imul, 1) := by decide +kernel
theorem dX8_pushOf_4 : decode cX8_pushOf 4 = .ok (.iload_n 2, 1) := by decide +kernel
theorem dX8_pushOf_5 : decode cX8_pushOf 5 = .ok (.iadd, 1) := by decide +kernel
theorem dX8_pushOf_6 : decode cX8_pushOf 6 = .ok (.istore_n 3, 1) := by decide +kernel
theorem dX8_pushOf_7 : decode cX8_pushOf 7 = .ok (.iload_n 3, 1) := by decide +kernel
theorem dX8_pushOf_8 : decode cX8_pushOf 8 = .ok (.ifCond .lt 21, 3) := by decide +kernel
theorem dX8_pushOf_11 : decode cX8_pushOf 11 = .ok (.iload_n 3, 1) := by decide +kernel
theorem dX8_pushOf_12 : decode cX8_pushOf 12 = .ok (.aload_n 0, 1) := by decide +kernel
theorem dX8_pushOf_13 : decode cX8_pushOf 13 = .ok (.getfield 59, 3) := by decide +kernel
theorem dX8_pushOf_16 : decode cX8_pushOf 16 = .ok (.arraylength, 1) := by decide +kernel
theorem dX8_pushOf_17 : decode cX8_pushOf 17 = .ok (.if_icmp .ge 12, 3) := by decide +kernel
theorem dX8_pushOf_20 : decode cX8_pushOf 20 = .ok (.aload_n 0, 1) := by decide +kernel
theorem dX8_pushOf_21 : decode cX8_pushOf 21 = .ok (.getfield 59, 3) := by decide +kernel
theorem dX8_pushOf_24 : decode cX8_pushOf 24 = .ok (.iload_n 3, 1) := by decide +kernel
theorem dX8_pushOf_25 : decode cX8_pushOf 25 = .ok (.iaload, 1) := by decide +kernel
theorem dX8_pushOf_26 : decode cX8_pushOf 26 = .ok (.goto 4, 3) := by decide +kernel
theorem dX8_pushOf_29 : decode cX8_pushOf 29 = .ok (.iconst 0, 1) := by decide +kernel
theorem dX8_pushOf_30 : decode cX8_pushOf 30 = .ok (.ireturn, 1) := by decide +kernel
theorem dX8_setPush_0 : decode cX8_setPush 0 = .ok (.iload_n 1, 1) := by decide +kernel
theorem dX8_setPush_1 : decode cX8_setPush 1 = .ok (.bipush 6, 2) := by decide +kernel
theorem dX8_setPush_3 : decode cX8_setPush 3 = .ok (.imul, 1) := by decide +kernel
theorem dX8_setPush_4 : decode cX8_setPush 4 = .ok (.iload_n 2, 1) := by decide +kernel
theorem dX8_setPush_5 : decode cX8_setPush 5 = .ok (.iadd, 1) := by decide +kernel
theorem dX8_setPush_6 : decode cX8_setPush 6 = .ok (.istore 4, 2) := by decide +kernel
theorem dX8_setPush_8 : decode cX8_setPush 8 = .ok (.iload 4, 2) := by decide +kernel
theorem dX8_setPush_10 : decode cX8_setPush 10 = .ok (.ifCond .lt 21, 3) := by decide +kernel
theorem dX8_setPush_13 : decode cX8_setPush 13 = .ok (.iload 4, 2) := by decide +kernel
theorem dX8_setPush_15 : decode cX8_setPush 15 = .ok (.aload_n 0, 1) := by decide +kernel
theorem dX8_setPush_16 : decode cX8_setPush 16 = .ok (.getfield 59, 3) := by decide +kernel
theorem dX8_setPush_19 : decode cX8_setPush 19 = .ok (.arraylength, 1) := by decide +kernel
theorem dX8_setPush_20 : decode cX8_setPush 20 = .ok (.if_icmp .ge 11, 3) := by decide +kernel
theorem dX8_setPush_23 : decode cX8_setPush 23 = .ok (.aload_n 0, 1) := by decide +kernel
theorem dX8_setPush_24 : decode cX8_setPush 24 = .ok (.getfield 59, 3) := by decide +kernel
theorem dX8_setPush_27 : decode cX8_setPush 27 = .ok (.iload 4, 2) := by decide +kernel
theorem dX8_setPush_29 : decode cX8_setPush 29 = .ok (.iload_n 3, 1) := by decide +kernel
theorem dX8_setPush_30 : decode cX8_setPush 30 = .ok (.iastore, 1) := by decide +kernel
theorem dX8_setPush_31 : decode cX8_setPush 31 = .ok (.return_, 1) := by decide +kernel
theorem dX9_init_0 : decode cX9_init 0 = .ok (.aload_n 0, 1) := by decide +kernel
theorem dX9_init_1 : decode cX9_init 1 = .ok (.invokespecial 3, 3) := by decide +kernel
theorem dX9_init_4 : decode cX9_init 4 = .ok (.aload_n 0, 1) := by decide +kernel
theorem dX9_init_5 : decode cX9_init 5 = .ok (.iconst 0, 1) := by decide +kernel
theorem dX9_init_6 : decode cX9_init 6 = .ok (.putfield 9, 3) := by decide +kernel
theorem dX9_init_9 : decode cX9_init 9 = .ok (.aload_n 0, 1) := by decide +kernel
theorem dX9_init_10 : decode cX9_init 10 = .ok (.bipush 6, 2) := by decide +kernel
theorem dX9_init_12 : decode cX9_init 12 = .ok (.newarray .int, 2) := by decide +kernel
theorem dX9_init_14 : decode cX9_init 14 = .ok (.putfield 15, 3) := by decide +kernel
theorem dX9_init_17 : decode cX9_init 17 = .ok (.aload_n 0, 1) := by decide +kernel
theorem dX9_init_18 : decode cX9_init 18 = .ok (.bipush 6, 2) := by decide +kernel
theorem dX9_init_20 : decode cX9_init 20 = .ok (.newarray .int, 2) := by decide +kernel
theorem dX9_init_22 : decode cX9_init 22 = .ok (.putfield 19, 3) := by decide +kernel
theorem dX9_init_25 : decode cX9_init 25 = .ok (.aload_n 0, 1) := by decide +kernel
theorem dX9_init_26 : decode cX9_init 26 = .ok (.lconst 0, 1) := by decide +kernel
theorem dX9_init_27 : decode cX9_init 27 = .ok (.putfield 22, 3) := by decide +kernel
theorem dX9_init_30 : decode cX9_init 30 = .ok (.return_, 1) := by decide +kernel
theorem dX9_blowOver_0 : decode cX9_blowOver 0 = .ok (.aload_n 0, 1) := by decide +kernel
theorem dX9_blowOver_1 : decode cX9_blowOver 1 = .ok (.iload_n 2, 1) := by decide +kernel
theorem dX9_blowOver_2 : decode cX9_blowOver 2 = .ok (.i2l, 1) := by decide +kernel
theorem dX9_blowOver_3 : decode cX9_blowOver 3 = .ok (.putfield 22, 3) := by decide +kernel
theorem dX9_blowOver_6 : decode cX9_blowOver 6 = .ok (.aload_n 0, 1) := by decide +kernel
theorem dX9_blowOver_7 : decode cX9_blowOver 7 = .ok (.aload_n 1, 1) := by decide +kernel
theorem dX9_blowOver_8 : decode cX9_blowOver 8 = .ok (.getfield 26, 3) := by decide +kernel
theorem dX9_blowOver_11 : decode cX9_blowOver 11 = .ok (.putfield 9, 3) := by decide +kernel
theorem dX9_blowOver_14 : decode cX9_blowOver 14 = .ok (.iconst 0, 1) := by decide +kernel
theorem dX9_blowOver_15 : decode cX9_blowOver 15 = .ok (.istore 5, 2) := by decide +kernel
theorem dX9_blowOver_17 : decode cX9_blowOver 17 = .ok (.iload 5, 2) := by decide +kernel
theorem dX9_blowOver_19 : decode cX9_blowOver 19 = .ok (.bipush 6, 2) := by decide +kernel
theorem dX9_blowOver_21 : decode cX9_blowOver 21 = .ok (.if_icmp .ge 17, 3) := by decide +kernel
theorem dX9_blowOver_24 : decode cX9_blowOver 24 = .ok (.aload_n 0, 1) := by decide +kernel
theorem dX9_blowOver_25 : decode cX9_blowOver 25 = .ok (.getfield 19, 3) := by decide +kernel
theorem dX9_blowOver_28 : decode cX9_blowOver 28 = .ok (.iload 5, 2) := by decide +kernel
theorem dX9_blowOver_30 : decode cX9_blowOver 30 = .ok (.iconst 0, 1) := by decide +kernel
theorem dX9_blowOver_31 : decode cX9_blowOver 31 = .ok (.iastore, 1) := by decide +kernel
theorem dX9_blowOver_32 : decode cX9_blowOver 32 = .ok (.iinc 5 1, 3) := by decide +kernel
theorem dX9_blowOver_35 : decode cX9_blowOver 35 = .ok (.goto (-18), 3) := by decide +kernel
theorem dX9_blowOver_38 : decode cX9_blowOver 38 = .ok (.iconst 0, 1) := by decide +kernel
theorem dX9_blowOver_39 : decode cX9_blowOver 39 = .ok (.istore 5, 2) := by decide +kernel
theorem dX9_blowOver_41 : decode cX9_blowOver 41 = .ok (.iconst 0, 1) := by decide +kernel
theorem dX9_blowOver_42 : decode cX9_blowOver 42 = .ok (.istore 6, 2) := by decide +kernel
theorem dX9_blowOver_44 : decode cX9_blowOver 44 = .ok (.iload 6, 2) := by decide +kernel
theorem dX9_blowOver_46 : decode cX9_blowOver 46 = .ok (.iload 4, 2) := by decide +kernel
theorem dX9_blowOver_48 : decode cX9_blowOver 48 = .ok (.if_icmp .ge 59, 3) := by decide +kernel
theorem dX9_blowOver_51 : decode cX9_blowOver 51 = .ok (.iconst 0, 1) := by decide +kernel
theorem dX9_blowOver_52 : decode cX9_blowOver 52 = .ok (.istore 7, 2) := by decide +kernel
theorem dX9_blowOver_54 : decode cX9_blowOver 54 = .ok (.iload 7, 2) := by decide +kernel
theorem dX9_blowOver_56 : decode cX9_blowOver 56 = .ok (.aload_n 0, 1) := by decide +kernel
theorem dX9_blowOver_57 : decode cX9_blowOver 57 = .ok (.getfield 9, 3) := by decide +kernel
theorem dX9_blowOver_60 : decode cX9_blowOver 60 = .ok (.if_icmp .ge 41, 3) := by decide +kernel
theorem dX9_blowOver_63 : decode cX9_blowOver 63 = .ok (.iload 7, 2) := by decide +kernel
theorem dX9_blowOver_65 : decode cX9_blowOver 65 = .ok (.bipush 6, 2) := by decide +kernel
theorem dX9_blowOver_67 : decode cX9_blowOver 67 = .ok (.if_icmp .ge 34, 3) := by decide +kernel
theorem dX9_blowOver_70 : decode cX9_blowOver 70 = .ok (.aload_n 0, 1) := by decide +kernel
theorem dX9_blowOver_71 : decode cX9_blowOver 71 = .ok (.bipush 10, 2) := by decide +kernel
theorem dX9_blowOver_73 : decode cX9_blowOver 73 = .ok (.invokevirtual 31, 3) := by decide +kernel
theorem dX9_blowOver_76 : decode cX9_blowOver 76 = .ok (.lconst 0, 1) := by decide +kernel
theorem dX9_blowOver_77 : decode cX9_blowOver 77 = .ok (.lcmp, 1) := by decide +kernel
theorem dX9_blowOver_78 : decode cX9_blowOver 78 = .ok (.ifCond .ne 17, 3) := by decide +kernel
theorem dX9_blowOver_81 : decode cX9_blowOver 81 = .ok (.aload_n 0, 1) := by decide +kernel
theorem dX9_blowOver_82 : decode cX9_blowOver 82 = .ok (.getfield 19, 3) := by decide +kernel
theorem dX9_blowOver_85 : decode cX9_blowOver 85 = .ok (.iload 7, 2) := by decide +kernel
theorem dX9_blowOver_87 : decode cX9_blowOver 87 = .ok (.dup2, 1) := by decide +kernel
theorem dX9_blowOver_88 : decode cX9_blowOver 88 = .ok (.iaload, 1) := by decide +kernel
theorem dX9_blowOver_89 : decode cX9_blowOver 89 = .ok (.iconst 1, 1) := by decide +kernel
theorem dX9_blowOver_90 : decode cX9_blowOver 90 = .ok (.iadd, 1) := by decide +kernel
theorem dX9_blowOver_91 : decode cX9_blowOver 91 = .ok (.iastore, 1) := by decide +kernel
theorem dX9_blowOver_92 : decode cX9_blowOver 92 = .ok (.iinc 5 1, 3) := by decide +kernel
theorem dX9_blowOver_95 : decode cX9_blowOver 95 = .ok (.iinc 7 1, 3) := by decide +kernel
theorem dX9_blowOver_98 : decode cX9_blowOver 98 = .ok (.goto (-44), 3) := by decide +kernel
theorem dX9_blowOver_101 : decode cX9_blowOver 101 = .ok (.iinc 6 1, 3) := by decide +kernel
theorem dX9_blowOver_104 : decode cX9_blowOver 104 = .ok (.goto (-60), 3) := by decide +kernel
theorem dX9_blowOver_107 : decode cX9_blowOver 107 = .ok (.iconst 0, 1) := by decide +kernel
theorem dX9_blowOver_108 : decode cX9_blowOver 108 = .ok (.istore 6, 2) := by decide +kernel
theorem dX9_blowOver_110 : decode cX9_blowOver 110 = .ok (.iload 6, 2) := by decide +kernel
theorem dX9_blowOver_112 : decode cX9_blowOver 112 = .ok (.aload_n 0, 1) := by decide +kernel
theorem dX9_blowOver_113 : decode cX9_blowOver 113 = .ok (.getfield 9, 3) := by decide +kernel
theorem dX9_blowOver_116 : decode cX9_blowOver 116 = .ok (.if_icmp .ge 57, 3) := by decide +kernel
theorem dX9_blowOver_119 : decode cX9_blowOver 119 = .ok (.iload 6, 2) := by decide +kernel
theorem dX9_blowOver_121 : decode cX9_blowOver 121 = .ok (.bipush 6, 2) := by decide +kernel
theorem dX9_blowOver_123 : decode cX9_blowOver 123 = .ok (.if_icmp .ge 50, 3) := by decide +kernel
theorem dX9_blowOver_126 : decode cX9_blowOver 126 = .ok (.aload_n 1, 1) := by decide +kernel
theorem dX9_blowOver_127 : decode cX9_blowOver 127 = .ok (.iload 6, 2) := by decide +kernel
theorem dX9_blowOver_129 : decode cX9_blowOver 129 = .ok (.invokevirtual 35, 3) := by decide +kernel
theorem dX9_blowOver_132 : decode cX9_blowOver 132 = .ok (.astore 7, 2) := by decide +kernel
theorem dX9_blowOver_134 : decode cX9_blowOver 134 = .ok (.aload_n 0, 1) := by decide +kernel
theorem dX9_blowOver_135 : decode cX9_blowOver 135 = .ok (.getfield 15, 3) := by decide +kernel
theorem dX9_blowOver_138 : decode cX9_blowOver 138 = .ok (.iload 6, 2) := by decide +kernel
theorem dX9_blowOver_140 : decode cX9_blowOver 140 = .ok (.aload 7, 2) := by decide +kernel
theorem dX9_blowOver_142 : decode cX9_blowOver 142 = .ok (.ifnonnull 7, 3) := by decide +kernel
theorem dX9_blowOver_145 : decode cX9_blowOver 145 = .ok (.iconst (-1), 1) := by decide +kernel
theorem dX9_blowOver_146 : decode cX9_blowOver 146 = .ok (.goto 20, 3) := by decide +kernel
theorem dX9_blowOver_149 : decode cX9_blowOver 149 = .ok (.aload 7, 2) := by decide +kernel
theorem dX9_blowOver_151 : decode cX9_blowOver 151 = .ok (.iload_n 3, 1) := by decide +kernel
theorem dX9_blowOver_152 : decode cX9_blowOver 152 = .ok (.iload 4, 2) := by decide +kernel
theorem dX9_blowOver_154 : decode cX9_blowOver 154 = .ok (.iadd, 1) := by decide +kernel
theorem dX9_blowOver_155 : decode cX9_blowOver 155 = .ok (.aload_n 0, 1) := by decide +kernel
theorem dX9_blowOver_156 : decode cX9_blowOver 156 = .ok (.getfield 19, 3) := by decide +kernel
theorem dX9_blowOver_159 : decode cX9_blowOver 159 = .ok (.iload 6, 2) := by decide +kernel
theorem dX9_blowOver_161 : decode cX9_blowOver 161 = .ok (.iaload, 1) := by decide +kernel
theorem dX9_blowOver_162 : decode cX9_blowOver 162 = .ok (.isub, 1) := by decide +kernel
theorem dX9_blowOver_163 : decode cX9_blowOver 163 = .ok (.invokevirtual 39, 3) := by decide +kernel
theorem dX9_blowOver_166 : decode cX9_blowOver 166 = .ok (.iastore, 1) := by decide +kernel
theorem dX9_blowOver_167 : decode cX9_blowOver 167 = .ok (.iinc 6 1, 3) := by decide +kernel
theorem dX9_blowOver_170 : decode cX9_blowOver 170 = .ok (.goto (-60), 3) := by decide +kernel
theorem dX9_blowOver_173 : decode cX9_blowOver 173 = .ok (.iload 5, 2) := by decide +kernel
theorem dX9_blowOver_175 : decode cX9_blowOver 175 = .ok (.ireturn, 1) := by decide +kernel
theorem dX9_draw_0 : decode cX9_draw 0 = .ok (.aload_n 0, 1) := by decide +kernel
theorem dX9_draw_1 : decode cX9_draw 1 = .ok (.aload_n 0, 1) := by decide +kernel
theorem dX9_draw_2 : decode cX9_draw 2 = .ok (.getfield 22, 3) := by decide +kernel
theorem dX9_draw_5 : decode cX9_draw 5 = .ok (.ldc2_w 45, 3) := by decide +kernel
theorem dX9_draw_8 : decode cX9_draw 8 = .ok (.lmul, 1) := by decide +kernel
theorem dX9_draw_9 : decode cX9_draw 9 = .ok (.ldc2_w 47, 3) := by decide +kernel
theorem dX9_draw_12 : decode cX9_draw 12 = .ok (.ladd, 1) := by decide +kernel
theorem dX9_draw_13 : decode cX9_draw 13 = .ok (.ldc2_w 49, 3) := by decide +kernel
theorem dX9_draw_16 : decode cX9_draw 16 = .ok (.lrem, 1) := by decide +kernel
theorem dX9_draw_17 : decode cX9_draw 17 = .ok (.putfield 22, 3) := by decide +kernel
theorem dX9_draw_20 : decode cX9_draw 20 = .ok (.aload_n 0, 1) := by decide +kernel
theorem dX9_draw_21 : decode cX9_draw 21 = .ok (.getfield 22, 3) := by decide +kernel
theorem dX9_draw_24 : decode cX9_draw 24 = .ok (.iload_n 1, 1) := by decide +kernel
theorem dX9_draw_25 : decode cX9_draw 25 = .ok (.i2l, 1) := by decide +kernel
theorem dX9_draw_26 : decode cX9_draw 26 = .ok (.invokestatic 51, 3) := by decide +kernel
theorem dX9_draw_29 : decode cX9_draw 29 = .ok (.lreturn, 1) := by decide +kernel
theorem dX9_markOf_0 : decode cX9_markOf 0 = .ok (.iload_n 1, 1) := by decide +kernel
theorem dX9_markOf_1 : decode cX9_markOf 1 = .ok (.ifCond .lt 26, 3) := by decide +kernel
theorem dX9_markOf_4 : decode cX9_markOf 4 = .ok (.iload_n 1, 1) := by decide +kernel
theorem dX9_markOf_5 : decode cX9_markOf 5 = .ok (.aload_n 0, 1) := by decide +kernel
theorem dX9_markOf_6 : decode cX9_markOf 6 = .ok (.getfield 9, 3) := by decide +kernel
theorem dX9_markOf_9 : decode cX9_markOf 9 = .ok (.if_icmp .ge 18, 3) := by decide +kernel
theorem dX9_markOf_12 : decode cX9_markOf 12 = .ok (.iload_n 1, 1) := by decide +kernel
theorem dX9_markOf_13 : decode cX9_markOf 13 = .ok (.bipush 6, 2) := by decide +kernel
theorem dX9_markOf_15 : decode cX9_markOf 15 = .ok (.if_icmp .ge 12, 3) := by decide +kernel
theorem dX9_markOf_18 : decode cX9_markOf 18 = .ok (.aload_n 0, 1) := by decide +kernel
theorem dX9_markOf_19 : decode cX9_markOf 19 = .ok (.getfield 15, 3) := by decide +kernel
theorem dX9_markOf_22 : decode cX9_markOf 22 = .ok (.iload_n 1, 1) := by decide +kernel
theorem dX9_markOf_23 : decode cX9_markOf 23 = .ok (.iaload, 1) := by decide +kernel
theorem dX9_markOf_24 : decode cX9_markOf 24 = .ok (.goto 4, 3) := by decide +kernel
theorem dX9_markOf_27 : decode cX9_markOf 27 = .ok (.iconst (-1), 1) := by decide +kernel
theorem dX9_markOf_28 : decode cX9_markOf 28 = .ok (.ireturn, 1) := by decide +kernel
theorem dX9_lostBy_0 : decode cX9_lostBy 0 = .ok (.iload_n 1, 1) := by decide +kernel
theorem dX9_lostBy_1 : decode cX9_lostBy 1 = .ok (.ifCond .lt 26, 3) := by decide +kernel
theorem dX9_lostBy_4 : decode cX9_lostBy 4 = .ok (.iload_n 1, 1) := by decide +kernel
theorem dX9_lostBy_5 : decode cX9_lostBy 5 = .ok (.aload_n 0, 1) := by decide +kernel
theorem dX9_lostBy_6 : decode cX9_lostBy 6 = .ok (.getfield 9, 3) := by decide +kernel
theorem dX9_lostBy_9 : decode cX9_lostBy 9 = .ok (.if_icmp .ge 18, 3) := by decide +kernel
theorem dX9_lostBy_12 : decode cX9_lostBy 12 = .ok (.iload_n 1, 1) := by decide +kernel
theorem dX9_lostBy_13 : decode cX9_lostBy 13 = .ok (.bipush 6, 2) := by decide +kernel
theorem dX9_lostBy_15 : decode cX9_lostBy 15 = .ok (.if_icmp .ge 12, 3) := by decide +kernel
theorem dX9_lostBy_18 : decode cX9_lostBy 18 = .ok (.aload_n 0, 1) := by decide +kernel
theorem dX9_lostBy_19 : decode cX9_lostBy 19 = .ok (.getfield 19, 3) := by decide +kernel
theorem dX9_lostBy_22 : decode cX9_lostBy 22 = .ok (.iload_n 1, 1) := by decide +kernel
theorem dX9_lostBy_23 : decode cX9_lostBy 23 = .ok (.iaload, 1) := by decide +kernel
theorem dX9_lostBy_24 : decode cX9_lostBy 24 = .ok (.goto 4, 3) := by decide +kernel
theorem dX9_lostBy_27 : decode cX9_lostBy 27 = .ok (.iconst (-1), 1) := by decide +kernel
theorem dX9_lostBy_28 : decode cX9_lostBy 28 = .ok (.ireturn, 1) := by decide +kernel
theorem dX10_init_0 : decode cX10_init 0 = .ok (.aload_n 0, 1) := by decide +kernel
theorem dX10_init_1 : decode cX10_init 1 = .ok (.invokespecial 3, 3) := by decide +kernel
theorem dX10_init_4 : decode cX10_init 4 = .ok (.aload_n 0, 1) := by decide +kernel
theorem dX10_init_5 : decode cX10_init 5 = .ok (.sipush 401, 3) := by decide +kernel
theorem dX10_init_8 : decode cX10_init 8 = .ok (.newarray .int, 2) := by decide +kernel
theorem dX10_init_10 : decode cX10_init 10 = .ok (.putfield 9, 3) := by decide +kernel
theorem dX10_init_13 : decode cX10_init 13 = .ok (.aload_n 0, 1) := by decide +kernel
theorem dX10_init_14 : decode cX10_init 14 = .ok (.sipush 401, 3) := by decide +kernel
theorem dX10_init_17 : decode cX10_init 17 = .ok (.newarray .int, 2) := by decide +kernel
theorem dX10_init_19 : decode cX10_init 19 = .ok (.putfield 15, 3) := by decide +kernel
theorem dX10_init_22 : decode cX10_init 22 = .ok (.aload_n 0, 1) := by decide +kernel
theorem dX10_init_23 : decode cX10_init 23 = .ok (.sipush 401, 3) := by decide +kernel
theorem dX10_init_26 : decode cX10_init 26 = .ok (.newarray .int, 2) := by decide +kernel
theorem dX10_init_28 : decode cX10_init 28 = .ok (.putfield 18, 3) := by decide +kernel
theorem dX10_init_31 : decode cX10_init 31 = .ok (.aload_n 0, 1) := by decide +kernel
theorem dX10_init_32 : decode cX10_init 32 = .ok (.iconst 0, 1) := by decide +kernel
theorem dX10_init_33 : decode cX10_init 33 = .ok (.putfield 21, 3) := by decide +kernel
theorem dX10_init_36 : decode cX10_init 36 = .ok (.aload_n 0, 1) := by decide +kernel
theorem dX10_init_37 : decode cX10_init 37 = .ok (.aconst_null, 1) := by decide +kernel
theorem dX10_init_38 : decode cX10_init 38 = .ok (.putfield 25, 3) := by decide +kernel
theorem dX10_init_41 : decode cX10_init 41 = .ok (.aload_n 0, 1) := by decide +kernel
theorem dX10_init_42 : decode cX10_init 42 = .ok (.iconst 0, 1) := by decide +kernel
theorem dX10_init_43 : decode cX10_init 43 = .ok (.putfield 28, 3) := by decide +kernel
theorem dX10_init_46 : decode cX10_init 46 = .ok (.aload_n 0, 1) := by decide +kernel
theorem dX10_init_47 : decode cX10_init 47 = .ok (.iconst 0, 1) := by decide +kernel
theorem dX10_init_48 : decode cX10_init 48 = .ok (.putfield 31, 3) := by decide +kernel
theorem dX10_init_51 : decode cX10_init 51 = .ok (.return_, 1) := by decide +kernel
theorem dX10_takeAll_0 : decode cX10_takeAll 0 = .ok (.aload_n 0, 1) := by decide +kernel
theorem dX10_takeAll_1 : decode cX10_takeAll 1 = .ok (.aload_n 1, 1) := by decide +kernel
theorem dX10_takeAll_2 : decode cX10_takeAll 2 = .ok (.putfield 25, 3) := by decide +kernel
theorem dX10_takeAll_5 : decode cX10_takeAll 5 = .ok (.aload_n 0, 1) := by decide +kernel
theorem dX10_takeAll_6 : decode cX10_takeAll 6 = .ok (.iload_n 2, 1) := by decide +kernel
theorem dX10_takeAll_7 : decode cX10_takeAll 7 = .ok (.putfield 28, 3) := by decide +kernel
theorem dX10_takeAll_10 : decode cX10_takeAll 10 = .ok (.aload_n 0, 1) := by decide +kernel
theorem dX10_takeAll_11 : decode cX10_takeAll 11 = .ok (.iconst 0, 1) := by decide +kernel
theorem dX10_takeAll_12 : decode cX10_takeAll 12 = .ok (.putfield 31, 3) := by decide +kernel
theorem dX10_takeAll_15 : decode cX10_takeAll 15 = .ok (.aload_n 0, 1) := by decide +kernel
theorem dX10_takeAll_16 : decode cX10_takeAll 16 = .ok (.iconst 0, 1) := by decide +kernel
theorem dX10_takeAll_17 : decode cX10_takeAll 17 = .ok (.putfield 21, 3) := by decide +kernel
theorem dX10_takeAll_20 : decode cX10_takeAll 20 = .ok (.iconst 0, 1) := by decide +kernel
theorem dX10_takeAll_21 : decode cX10_takeAll 21 = .ok (.istore_n 3, 1) := by decide +kernel
theorem dX10_takeAll_22 : decode cX10_takeAll 22 = .ok (.iload_n 3, 1) := by decide +kernel
theorem dX10_takeAll_23 : decode cX10_takeAll 23 = .ok (.sipush 400, 3) := by decide +kernel
theorem dX10_takeAll_26 : decode cX10_takeAll 26 = .ok (.if_icmp .ge 24, 3) := by decide +kernel
theorem dX10_takeAll_29 : decode cX10_takeAll 29 = .ok (.aload_n 0, 1) := by decide +kernel
theorem dX10_takeAll_30 : decode cX10_takeAll 30 = .ok (.getfield 31, 3) := by decide +kernel
theorem dX10_takeAll_33 : decode cX10_takeAll 33 = .ok (.aload_n 0, 1) := by decide +kernel
theorem dX10_takeAll_34 : decode cX10_takeAll 34 = .ok (.getfield 28, 3) := by decide +kernel
theorem dX10_takeAll_37 : decode cX10_takeAll 37 = .ok (.if_icmp .ge 13, 3) := by decide +kernel
theorem dX10_takeAll_40 : decode cX10_takeAll 40 = .ok (.aload_n 0, 1) := by decide +kernel
theorem dX10_takeAll_41 : decode cX10_takeAll 41 = .ok (.invokevirtual 34, 3) := by decide +kernel
theorem dX10_takeAll_44 : decode cX10_takeAll 44 = .ok (.iinc 3 1, 3) := by decide +kernel
theorem dX10_takeAll_47 : decode cX10_takeAll 47 = .ok (.goto (-25), 3) := by decide +kernel
theorem dX10_takeAll_50 : decode cX10_takeAll 50 = .ok (.aload_n 0, 1) := by decide +kernel
theorem dX10_takeAll_51 : decode cX10_takeAll 51 = .ok (.iconst (-1), 1) := by decide +kernel
theorem dX10_takeAll_52 : decode cX10_takeAll 52 = .ok (.iconst 0, 1) := by decide +kernel
theorem dX10_takeAll_53 : decode cX10_takeAll 53 = .ok (.aload_n 0, 1) := by decide +kernel
theorem dX10_takeAll_54 : decode cX10_takeAll 54 = .ok (.getfield 28, 3) := by decide +kernel
theorem dX10_takeAll_57 : decode cX10_takeAll 57 = .ok (.invokevirtual 37, 3) := by decide +kernel
theorem dX10_takeAll_60 : decode cX10_takeAll 60 = .ok (.return_, 1) := by decide +kernel
theorem dX10_takeOne_0 : decode cX10_takeOne 0 = .ok (.aload_n 0, 1) := by decide +kernel
theorem dX10_takeOne_1 : decode cX10_takeOne 1 = .ok (.aload_n 0, 1) := by decide +kernel
theorem dX10_takeOne_2 : decode cX10_takeOne 2 = .ok (.getfield 31, 3) := by decide +kernel
theorem dX10_takeOne_5 : decode cX10_takeOne 5 = .ok (.invokevirtual 41, 3) := by decide +kernel
theorem dX10_takeOne_8 : decode cX10_takeOne 8 = .ok (.istore_n 1, 1) := by decide +kernel
theorem dX10_takeOne_9 : decode cX10_takeOne 9 = .ok (.iload_n 1, 1) := by decide +kernel
theorem dX10_takeOne_10 : decode cX10_takeOne 10 = .ok (.invokestatic 45, 3) := by decide +kernel
theorem dX10_takeOne_13 : decode cX10_takeOne 13 = .ok (.ifCond .eq 10, 3) := by decide +kernel
theorem dX10_takeOne_16 : decode cX10_takeOne 16 = .ok (.aload_n 0, 1) := by decide +kernel
theorem dX10_takeOne_17 : decode cX10_takeOne 17 = .ok (.invokevirtual 49, 3) := by decide +kernel
theorem dX10_takeOne_20 : decode cX10_takeOne 20 = .ok (.goto 43, 3) := by decide +kernel
theorem dX10_takeOne_23 : decode cX10_takeOne 23 = .ok (.iload_n 1, 1) := by decide +kernel
theorem dX10_takeOne_24 : decode cX10_takeOne 24 = .ok (.invokestatic 52, 3) := by decide +kernel
theorem dX10_takeOne_27 : decode cX10_takeOne 27 = .ok (.ifCond .eq 10, 3) := by decide +kernel
theorem dX10_takeOne_30 : decode cX10_takeOne 30 = .ok (.aload_n 0, 1) := by decide +kernel
theorem dX10_takeOne_31 : decode cX10_takeOne 31 = .ok (.invokevirtual 55, 3) := by decide +kernel
theorem dX10_takeOne_34 : decode cX10_takeOne 34 = .ok (.goto 29, 3) := by decide +kernel
theorem dX10_takeOne_37 : decode cX10_takeOne 37 = .ok (.iload_n 1, 1) := by decide +kernel
theorem dX10_takeOne_38 : decode cX10_takeOne 38 = .ok (.bipush 32, 2) := by decide +kernel
theorem dX10_takeOne_40 : decode cX10_takeOne 40 = .ok (.if_icmp .eq 13, 3) := by decide +kernel
theorem dX10_takeOne_43 : decode cX10_takeOne 43 = .ok (.aload_n 0, 1) := by decide +kernel
theorem dX10_takeOne_44 : decode cX10_takeOne 44 = .ok (.iload_n 1, 1) := by decide +kernel
theorem dX10_takeOne_45 : decode cX10_takeOne 45 = .ok (.iconst 0, 1) := by decide +kernel
theorem dX10_takeOne_46 : decode cX10_takeOne 46 = .ok (.aload_n 0, 1) := by decide +kernel
theorem dX10_takeOne_47 : decode cX10_takeOne 47 = .ok (.getfield 31, 3) := by decide +kernel
theorem dX10_takeOne_50 : decode cX10_takeOne 50 = .ok (.invokevirtual 37, 3) := by decide +kernel
theorem dX10_takeOne_53 : decode cX10_takeOne 53 = .ok (.aload_n 0, 1) := by decide +kernel
theorem dX10_takeOne_54 : decode cX10_takeOne 54 = .ok (.dup, 1) := by decide +kernel
theorem dX10_takeOne_55 : decode cX10_takeOne 55 = .ok (.getfield 31, 3) := by decide +kernel
theorem dX10_takeOne_58 : decode cX10_takeOne 58 = .ok (.iconst 1, 1) := by decide +kernel
theorem dX10_takeOne_59 : decode cX10_takeOne 59 = .ok (.iadd, 1) := by decide +kernel
theorem dX10_takeOne_60 : decode cX10_takeOne 60 = .ok (.putfield 31, 3) := by decide +kernel
theorem dX10_takeOne_63 : decode cX10_takeOne 63 = .ok (.return_, 1) := by decide +kernel
theorem dX10_takeWord_0 : decode cX10_takeWord 0 = .ok (.aload_n 0, 1) := by decide +kernel
theorem dX10_takeWord_1 : decode cX10_takeWord 1 = .ok (.getfield 31, 3) := by decide +kernel
theorem dX10_takeWord_4 : decode cX10_takeWord 4 = .ok (.istore_n 1, 1) := by decide +kernel
theorem dX10_takeWord_5 : decode cX10_takeWord 5 = .ok (.iconst 0, 1) := by decide +kernel
theorem dX10_takeWord_6 : decode cX10_takeWord 6 = .ok (.istore_n 2, 1) := by decide +kernel
theorem dX10_takeWord_7 : decode cX10_takeWord 7 = .ok (.iload_n 2, 1) := by decide +kernel
theorem dX10_takeWord_8 : decode cX10_takeWord 8 = .ok (.sipush 400, 3) := by decide +kernel
theorem dX10_takeWord_11 : decode cX10_takeWord 11 = .ok (.if_icmp .ge 33, 3) := by decide +kernel
theorem dX10_takeWord_14 : decode cX10_takeWord 14 = .ok (.aload_n 0, 1) := by decide +kernel
theorem dX10_takeWord_15 : decode cX10_takeWord 15 = .ok (.aload_n 0, 1) := by decide +kernel
theorem dX10_takeWord_16 : decode cX10_takeWord 16 = .ok (.getfield 31, 3) := by decide +kernel
theorem dX10_takeWord_19 : decode cX10_takeWord 19 = .ok (.invokevirtual 41, 3) := by decide +kernel
theorem dX10_takeWord_22 : decode cX10_takeWord 22 = .ok (.invokestatic 45, 3) := by decide +kernel
theorem dX10_takeWord_25 : decode cX10_takeWord 25 = .ok (.ifCond .eq 19, 3) := by decide +kernel
theorem dX10_takeWord_28 : decode cX10_takeWord 28 = .ok (.aload_n 0, 1) := by decide +kernel
theorem dX10_takeWord_29 : decode cX10_takeWord 29 = .ok (.dup, 1) := by decide +kernel
theorem dX10_takeWord_30 : decode cX10_takeWord 30 = .ok (.getfield 31, 3) := by decide +kernel
theorem dX10_takeWord_33 : decode cX10_takeWord 33 = .ok (.iconst 1, 1) := by decide +kernel
theorem dX10_takeWord_34 : decode cX10_takeWord 34 = .ok (.iadd, 1) := by decide +kernel
theorem dX10_takeWord_35 : decode cX10_takeWord 35 = .ok (.putfield 31, 3) := by decide +kernel
theorem dX10_takeWord_38 : decode cX10_takeWord 38 = .ok (.iinc 2 1, 3) := by decide +kernel
theorem dX10_takeWord_41 : decode cX10_takeWord 41 = .ok (.goto (-34), 3) := by decide +kernel
theorem dX10_takeWord_44 : decode cX10_takeWord 44 = .ok (.aload_n 0, 1) := by decide +kernel
theorem dX10_takeWord_45 : decode cX10_takeWord 45 = .ok (.aload_n 0, 1) := by decide +kernel
theorem dX10_takeWord_46 : decode cX10_takeWord 46 = .ok (.iload_n 1, 1) := by decide +kernel
theorem dX10_takeWord_47 : decode cX10_takeWord 47 = .ok (.invokevirtual 58, 3) := by decide +kernel
theorem dX10_takeWord_50 : decode cX10_takeWord 50 = .ok (.iconst 0, 1) := by decide +kernel
theorem dX10_takeWord_51 : decode cX10_takeWord 51 = .ok (.iload_n 1, 1) := by decide +kernel
theorem dX10_takeWord_52 : decode cX10_takeWord 52 = .ok (.invokevirtual 37, 3) := by decide +kernel
theorem dX10_takeWord_55 : decode cX10_takeWord 55 = .ok (.return_, 1) := by decide +kernel
theorem dX10_takeNumber_0 : decode cX10_takeNumber 0 = .ok (.aload_n 0, 1) := by decide +kernel
theorem dX10_takeNumber_1 : decode cX10_takeNumber 1 = .ok (.getfield 31, 3) := by decide +kernel
theorem dX10_takeNumber_4 : decode cX10_takeNumber 4 = .ok (.istore_n 1, 1) := by decide +kernel
theorem dX10_takeNumber_5 : decode cX10_takeNumber 5 = .ok (.iconst 0, 1) := by decide +kernel
theorem dX10_takeNumber_6 : decode cX10_takeNumber 6 = .ok (.istore_n 2, 1) := by decide +kernel
theorem dX10_takeNumber_7 : decode cX10_takeNumber 7 = .ok (.iconst 0, 1) := by decide +kernel
theorem dX10_takeNumber_8 : decode cX10_takeNumber 8 = .ok (.istore_n 3, 1) := by decide +kernel
theorem dX10_takeNumber_9 : decode cX10_takeNumber 9 = .ok (.iload_n 3, 1) := by decide +kernel
theorem dX10_takeNumber_10 : decode cX10_takeNumber 10 = .ok (.sipush 400, 3) := by decide +kernel
theorem dX10_takeNumber_13 : decode cX10_takeNumber 13 = .ok (.if_icmp .ge 56, 3) := by decide +kernel
theorem dX10_takeNumber_16 : decode cX10_takeNumber 16 = .ok (.aload_n 0, 1) := by decide +kernel
theorem dX10_takeNumber_17 : decode cX10_takeNumber 17 = .ok (.aload_n 0, 1) := by decide +kernel
theorem dX10_takeNumber_18 : decode cX10_takeNumber 18 = .ok (.getfield 31, 3) := by decide +kernel
theorem dX10_takeNumber_21 : decode cX10_takeNumber 21 = .ok (.invokevirtual 41, 3) := by decide +kernel
theorem dX10_takeNumber_24 : decode cX10_takeNumber 24 = .ok (.invokestatic 52, 3) := by decide +kernel
theorem dX10_takeNumber_27 : decode cX10_takeNumber 27 = .ok (.ifCond .eq 42, 3) := by decide +kernel
theorem dX10_takeNumber_30 : decode cX10_takeNumber 30 = .ok (.iload_n 2, 1) := by decide +kernel
theorem dX10_takeNumber_31 : decode cX10_takeNumber 31 = .ok (.bipush 10, 2) := by decide +kernel
theorem dX10_takeNumber_33 : decode cX10_takeNumber 33 = .ok (.imul, 1) := by decide +kernel
theorem dX10_takeNumber_34 : decode cX10_takeNumber 34 = .ok (.aload_n 0, 1) := by decide +kernel
theorem dX10_takeNumber_35 : decode cX10_takeNumber 35 = .ok (.aload_n 0, 1) := by decide +kernel
theorem dX10_takeNumber_36 : decode cX10_takeNumber 36 = .ok (.getfield 31, 3) := by decide +kernel
theorem dX10_takeNumber_39 : decode cX10_takeNumber 39 = .ok (.invokevirtual 41, 3) := by decide +kernel
theorem dX10_takeNumber_42 : decode cX10_takeNumber 42 = .ok (.iadd, 1) := by decide +kernel
theorem dX10_takeNumber_43 : decode cX10_takeNumber 43 = .ok (.bipush 48, 2) := by decide +kernel
theorem dX10_takeNumber_45 : decode cX10_takeNumber 45 = .ok (.isub, 1) := by decide +kernel
theorem dX10_takeNumber_46 : decode cX10_takeNumber 46 = .ok (.sipush 10001, 3) := by decide +kernel
theorem dX10_takeNumber_49 : decode cX10_takeNumber 49 = .ok (.invokestatic 61, 3) := by decide +kernel
theorem dX10_takeNumber_52 : decode cX10_takeNumber 52 = .ok (.istore_n 2, 1) := by decide +kernel
theorem dX10_takeNumber_53 : decode cX10_takeNumber 53 = .ok (.aload_n 0, 1) := by decide +kernel
theorem dX10_takeNumber_54 : decode cX10_takeNumber 54 = .ok (.dup, 1) := by decide +kernel
theorem dX10_takeNumber_55 : decode cX10_takeNumber 55 = .ok (.getfield 31, 3) := by decide +kernel
theorem dX10_takeNumber_58 : decode cX10_takeNumber 58 = .ok (.iconst 1, 1) := by decide +kernel
theorem dX10_takeNumber_59 : decode cX10_takeNumber 59 = .ok (.iadd, 1) := by decide +kernel
theorem dX10_takeNumber_60 : decode cX10_takeNumber 60 = .ok (.putfield 31, 3) := by decide +kernel
theorem dX10_takeNumber_63 : decode cX10_takeNumber 63 = .ok (.iinc 3 1, 3) := by decide +kernel
theorem dX10_takeNumber_66 : decode cX10_takeNumber 66 = .ok (.goto (-57), 3) := by decide +kernel
theorem dX10_takeNumber_69 : decode cX10_takeNumber 69 = .ok (.aload_n 0, 1) := by decide +kernel
theorem dX10_takeNumber_70 : decode cX10_takeNumber 70 = .ok (.sipush 300, 3) := by decide +kernel
theorem dX10_takeNumber_73 : decode cX10_takeNumber 73 = .ok (.iload_n 2, 1) := by decide +kernel
theorem dX10_takeNumber_74 : decode cX10_takeNumber 74 = .ok (.iload_n 1, 1) := by decide +kernel
theorem dX10_takeNumber_75 : decode cX10_takeNumber 75 = .ok (.invokevirtual 37, 3) := by decide +kernel
theorem dX10_takeNumber_78 : decode cX10_takeNumber 78 = .ok (.return_, 1) := by decide +kernel
theorem dX10_add_0 : decode cX10_add 0 = .ok (.aload_n 0, 1) := by decide +kernel
theorem dX10_add_1 : decode cX10_add 1 = .ok (.getfield 21, 3) := by decide +kernel
theorem dX10_add_4 : decode cX10_add 4 = .ok (.ifCond .lt 53, 3) := by decide +kernel
theorem dX10_add_7 : decode cX10_add 7 = .ok (.aload_n 0, 1) := by decide +kernel
theorem dX10_add_8 : decode cX10_add 8 = .ok (.getfield 21, 3) := by decide +kernel
theorem dX10_add_11 : decode cX10_add 11 = .ok (.sipush 400, 3) := by decide +kernel
theorem dX10_add_14 : decode cX10_add 14 = .ok (.if_icmp .gt 43, 3) := by decide +kernel
theorem dX10_add_17 : decode cX10_add 17 = .ok (.aload_n 0, 1) := by decide +kernel
theorem dX10_add_18 : decode cX10_add 18 = .ok (.getfield 9, 3) := by decide +kernel
theorem dX10_add_21 : decode cX10_add 21 = .ok (.aload_n 0, 1) := by decide +kernel
theorem dX10_add_22 : decode cX10_add 22 = .ok (.getfield 21, 3) := by decide +kernel
theorem dX10_add_25 : decode cX10_add 25 = .ok (.iload_n 1, 1) := by decide +kernel
theorem dX10_add_26 : decode cX10_add 26 = .ok (.iastore, 1) := by decide +kernel
theorem dX10_add_27 : decode cX10_add 27 = .ok (.aload_n 0, 1) := by decide +kernel
theorem dX10_add_28 : decode cX10_add 28 = .ok (.getfield 18, 3) := by decide +kernel
theorem dX10_add_31 : decode cX10_add 31 = .ok (.aload_n 0, 1) := by decide +kernel
theorem dX10_add_32 : decode cX10_add 32 = .ok (.getfield 21, 3) := by decide +kernel
theorem dX10_add_35 : decode cX10_add 35 = .ok (.iload_n 2, 1) := by decide +kernel
theorem dX10_add_36 : decode cX10_add 36 = .ok (.iastore, 1) := by decide +kernel
theorem dX10_add_37 : decode cX10_add 37 = .ok (.aload_n 0, 1) := by decide +kernel
theorem dX10_add_38 : decode cX10_add 38 = .ok (.getfield 15, 3) := by decide +kernel
theorem dX10_add_41 : decode cX10_add 41 = .ok (.aload_n 0, 1) := by decide +kernel
theorem dX10_add_42 : decode cX10_add 42 = .ok (.getfield 21, 3) := by decide +kernel
theorem dX10_add_45 : decode cX10_add 45 = .ok (.iload_n 3, 1) := by decide +kernel
theorem dX10_add_46 : decode cX10_add 46 = .ok (.iastore, 1) := by decide +kernel
theorem dX10_add_47 : decode cX10_add 47 = .ok (.aload_n 0, 1) := by decide +kernel
theorem dX10_add_48 : decode cX10_add 48 = .ok (.dup, 1) := by decide +kernel
theorem dX10_add_49 : decode cX10_add 49 = .ok (.getfield 21, 3) := by decide +kernel
theorem dX10_add_52 : decode cX10_add 52 = .ok (.iconst 1, 1) := by decide +kernel
theorem dX10_add_53 : decode cX10_add 53 = .ok (.iadd, 1) := by decide +kernel
theorem dX10_add_54 : decode cX10_add 54 = .ok (.putfield 21, 3) := by decide +kernel
theorem dX10_add_57 : decode cX10_add 57 = .ok (.return_, 1) := by decide +kernel
theorem dX10_wordKind_0 : decode cX10_wordKind 0 = .ok (.aload_n 0, 1) := by decide +kernel
theorem dX10_wordKind_1 : decode cX10_wordKind 1 = .ok (.ldc 67, 2) := by decide +kernel
theorem dX10_wordKind_3 : decode cX10_wordKind 3 = .ok (.iload_n 1, 1) := by decide +kernel
theorem dX10_wordKind_4 : decode cX10_wordKind 4 = .ok (.invokevirtual 69, 3) := by decide +kernel
theorem dX10_wordKind_7 : decode cX10_wordKind 7 = .ok (.ifCond .eq 7, 3) := by decide +kernel
theorem dX10_wordKind_10 : decode cX10_wordKind 10 = .ok (.sipush 257, 3) := by decide +kernel
theorem dX10_wordKind_13 : decode cX10_wordKind 13 = .ok (.ireturn, 1) := by decide +kernel
theorem dX10_wordKind_14 : decode cX10_wordKind 14 = .ok (.aload_n 0, 1) := by decide +kernel
theorem dX10_wordKind_15 : decode cX10_wordKind 15 = .ok (.ldc 73, 2) := by decide +kernel
theorem dX10_wordKind_17 : decode cX10_wordKind 17 = .ok (.iload_n 1, 1) := by decide +kernel
theorem dX10_wordKind_18 : decode cX10_wordKind 18 = .ok (.invokevirtual 69, 3) := by decide +kernel
theorem dX10_wordKind_21 : decode cX10_wordKind 21 = .ok (.ifCond .eq 7, 3) := by decide +kernel
theorem dX10_wordKind_24 : decode cX10_wordKind 24 = .ok (.sipush 258, 3) := by decide +kernel
theorem dX10_wordKind_27 : decode cX10_wordKind 27 = .ok (.ireturn, 1) := by decide +kernel
theorem dX10_wordKind_28 : decode cX10_wordKind 28 = .ok (.aload_n 0, 1) := by decide +kernel
theorem dX10_wordKind_29 : decode cX10_wordKind 29 = .ok (.ldc 75, 2) := by decide +kernel
theorem dX10_wordKind_31 : decode cX10_wordKind 31 = .ok (.iload_n 1, 1) := by decide +kernel
theorem dX10_wordKind_32 : decode cX10_wordKind 32 = .ok (.invokevirtual 69, 3) := by decide +kernel
theorem dX10_wordKind_35 : decode cX10_wordKind 35 = .ok (.ifCond .eq 7, 3) := by decide +kernel
theorem dX10_wordKind_38 : decode cX10_wordKind 38 = .ok (.sipush 259, 3) := by decide +kernel
theorem dX10_wordKind_41 : decode cX10_wordKind 41 = .ok (.ireturn, 1) := by decide +kernel
theorem dX10_wordKind_42 : decode cX10_wordKind 42 = .ok (.aload_n 0, 1) := by decide +kernel
theorem dX10_wordKind_43 : decode cX10_wordKind 43 = .ok (.ldc 77, 2) := by decide +kernel
theorem dX10_wordKind_45 : decode cX10_wordKind 45 = .ok (.iload_n 1, 1) := by decide +kernel
theorem dX10_wordKind_46 : decode cX10_wordKind 46 = .ok (.invokevirtual 69, 3) := by decide +kernel
theorem dX10_wordKind_49 : decode cX10_wordKind 49 = .ok (.ifCond .eq 7, 3) := by decide +kernel
theorem dX10_wordKind_52 : decode cX10_wordKind 52 = .ok (.sipush 260, 3) := by decide +kernel
theorem dX10_wordKind_55 : decode cX10_wordKind 55 = .ok (.ireturn, 1) := by decide +kernel
theorem dX10_wordKind_56 : decode cX10_wordKind 56 = .ok (.aload_n 0, 1) := by decide +kernel
theorem dX10_wordKind_57 : decode cX10_wordKind 57 = .ok (.ldc 79, 2) := by decide +kernel
theorem dX10_wordKind_59 : decode cX10_wordKind 59 = .ok (.iload_n 1, 1) := by decide +kernel
theorem dX10_wordKind_60 : decode cX10_wordKind 60 = .ok (.invokevirtual 69, 3) := by decide +kernel
theorem dX10_wordKind_63 : decode cX10_wordKind 63 = .ok (.ifCond .eq 7, 3) := by decide +kernel
theorem dX10_wordKind_66 : decode cX10_wordKind 66 = .ok (.sipush 261, 3) := by decide +kernel
theorem dX10_wordKind_69 : decode cX10_wordKind 69 = .ok (.ireturn, 1) := by decide +kernel
theorem dX10_wordKind_70 : decode cX10_wordKind 70 = .ok (.aload_n 0, 1) := by decide +kernel
theorem dX10_wordKind_71 : decode cX10_wordKind 71 = .ok (.ldc 81, 2) := by decide +kernel
theorem dX10_wordKind_73 : decode cX10_wordKind 73 = .ok (.iload_n 1, 1) := by decide +kernel
theorem dX10_wordKind_74 : decode cX10_wordKind 74 = .ok (.invokevirtual 69, 3) := by decide +kernel
theorem dX10_wordKind_77 : decode cX10_wordKind 77 = .ok (.ifCond .eq 7, 3) := by decide +kernel
theorem dX10_wordKind_80 : decode cX10_wordKind 80 = .ok (.sipush 301, 3) := by decide +kernel
theorem dX10_wordKind_83 : decode cX10_wordKind 83 = .ok (.ireturn, 1) := by decide +kernel
theorem dX10_wordKind_84 : decode cX10_wordKind 84 = .ok (.aload_n 0, 1) := by decide +kernel
theorem dX10_wordKind_85 : decode cX10_wordKind 85 = .ok (.ldc 83, 2) := by decide +kernel
theorem dX10_wordKind_87 : decode cX10_wordKind 87 = .ok (.iload_n 1, 1) := by decide +kernel
theorem dX10_wordKind_88 : decode cX10_wordKind 88 = .ok (.invokevirtual 69, 3) := by decide +kernel
theorem dX10_wordKind_91 : decode cX10_wordKind 91 = .ok (.ifCond .eq 7, 3) := by decide +kernel
theorem dX10_wordKind_94 : decode cX10_wordKind 94 = .ok (.sipush 302, 3) := by decide +kernel
theorem dX10_wordKind_97 : decode cX10_wordKind 97 = .ok (.ireturn, 1) := by decide +kernel
theorem dX10_wordKind_98 : decode cX10_wordKind 98 = .ok (.aload_n 0, 1) := by decide +kernel
theorem dX10_wordKind_99 : decode cX10_wordKind 99 = .ok (.ldc 85, 2) := by decide +kernel
theorem dX10_wordKind_101 : decode cX10_wordKind 101 = .ok (.iload_n 1, 1) := by decide +kernel
theorem dX10_wordKind_102 : decode cX10_wordKind 102 = .ok (.invokevirtual 69, 3) := by decide +kernel
theorem dX10_wordKind_105 : decode cX10_wordKind 105 = .ok (.ifCond .eq 7, 3) := by decide +kernel
theorem dX10_wordKind_108 : decode cX10_wordKind 108 = .ok (.sipush 303, 3) := by decide +kernel
theorem dX10_wordKind_111 : decode cX10_wordKind 111 = .ok (.ireturn, 1) := by decide +kernel
theorem dX10_wordKind_112 : decode cX10_wordKind 112 = .ok (.aload_n 0, 1) := by decide +kernel
theorem dX10_wordKind_113 : decode cX10_wordKind 113 = .ok (.ldc 87, 2) := by decide +kernel
theorem dX10_wordKind_115 : decode cX10_wordKind 115 = .ok (.iload_n 1, 1) := by decide +kernel
theorem dX10_wordKind_116 : decode cX10_wordKind 116 = .ok (.invokevirtual 69, 3) := by decide +kernel
theorem dX10_wordKind_119 : decode cX10_wordKind 119 = .ok (.ifCond .eq 7, 3) := by decide +kernel
theorem dX10_wordKind_122 : decode cX10_wordKind 122 = .ok (.sipush 304, 3) := by decide +kernel
theorem dX10_wordKind_125 : decode cX10_wordKind 125 = .ok (.ireturn, 1) := by decide +kernel
theorem dX10_wordKind_126 : decode cX10_wordKind 126 = .ok (.aload_n 0, 1) := by decide +kernel
theorem dX10_wordKind_127 : decode cX10_wordKind 127 = .ok (.ldc 89, 2) := by decide +kernel
theorem dX10_wordKind_129 : decode cX10_wordKind 129 = .ok (.iload_n 1, 1) := by decide +kernel
theorem dX10_wordKind_130 : decode cX10_wordKind 130 = .ok (.invokevirtual 69, 3) := by decide +kernel
theorem dX10_wordKind_133 : decode cX10_wordKind 133 = .ok (.ifCond .eq 7, 3) := by decide +kernel
theorem dX10_wordKind_136 : decode cX10_wordKind 136 = .ok (.sipush 305, 3) := by decide +kernel
theorem dX10_wordKind_139 : decode cX10_wordKind 139 = .ok (.ireturn, 1) := by decide +kernel
theorem dX10_wordKind_140 : decode cX10_wordKind 140 = .ok (.sipush 256, 3) := by decide +kernel
theorem dX10_wordKind_143 : decode cX10_wordKind 143 = .ok (.ireturn, 1) := by decide +kernel
theorem dX10_isWord_0 : decode cX10_isWord 0 = .ok (.aload_n 0, 1) := by decide +kernel
theorem dX10_isWord_1 : decode cX10_isWord 1 = .ok (.getfield 31, 3) := by decide +kernel
theorem dX10_isWord_4 : decode cX10_isWord 4 = .ok (.iload_n 2, 1) := by decide +kernel
theorem dX10_isWord_5 : decode cX10_isWord 5 = .ok (.isub, 1) := by decide +kernel
theorem dX10_isWord_6 : decode cX10_isWord 6 = .ok (.aload_n 1, 1) := by decide +kernel
theorem dX10_isWord_7 : decode cX10_isWord 7 = .ok (.invokevirtual 91, 3) := by decide +kernel
theorem dX10_isWord_10 : decode cX10_isWord 10 = .ok (.if_icmp .eq 5, 3) := by decide +kernel
theorem dX10_isWord_13 : decode cX10_isWord 13 = .ok (.iconst 0, 1) := by decide +kernel
theorem dX10_isWord_14 : decode cX10_isWord 14 = .ok (.ireturn, 1) := by decide +kernel
theorem dX10_isWord_15 : decode cX10_isWord 15 = .ok (.iconst 0, 1) := by decide +kernel
theorem dX10_isWord_16 : decode cX10_isWord 16 = .ok (.istore_n 3, 1) := by decide +kernel
theorem dX10_isWord_17 : decode cX10_isWord 17 = .ok (.iload_n 3, 1) := by decide +kernel
theorem dX10_isWord_18 : decode cX10_isWord 18 = .ok (.aload_n 1, 1) := by decide +kernel
theorem dX10_isWord_19 : decode cX10_isWord 19 = .ok (.invokevirtual 91, 3) := by decide +kernel
theorem dX10_isWord_22 : decode cX10_isWord 22 = .ok (.if_icmp .ge 26, 3) := by decide +kernel
theorem dX10_isWord_25 : decode cX10_isWord 25 = .ok (.aload_n 0, 1) := by decide +kernel
theorem dX10_isWord_26 : decode cX10_isWord 26 = .ok (.iload_n 2, 1) := by decide +kernel
theorem dX10_isWord_27 : decode cX10_isWord 27 = .ok (.iload_n 3, 1) := by decide +kernel
theorem dX10_isWord_28 : decode cX10_isWord 28 = .ok (.iadd, 1) := by decide +kernel
theorem dX10_isWord_29 : decode cX10_isWord 29 = .ok (.invokevirtual 41, 3) := by decide +kernel
theorem dX10_isWord_32 : decode cX10_isWord 32 = .ok (.aload_n 1, 1) := by decide +kernel
theorem dX10_isWord_33 : decode cX10_isWord 33 = .ok (.iload_n 3, 1) := by decide +kernel
theorem dX10_isWord_34 : decode cX10_isWord 34 = .ok (.invokevirtual 96, 3) := by decide +kernel
theorem dX10_isWord_37 : decode cX10_isWord 37 = .ok (.if_icmp .eq 5, 3) := by decide +kernel
theorem dX10_isWord_40 : decode cX10_isWord 40 = .ok (.iconst 0, 1) := by decide +kernel
theorem dX10_isWord_41 : decode cX10_isWord 41 = .ok (.ireturn, 1) := by decide +kernel
theorem dX10_isWord_42 : decode cX10_isWord 42 = .ok (.iinc 3 1, 3) := by decide +kernel
theorem dX10_isWord_45 : decode cX10_isWord 45 = .ok (.goto (-28), 3) := by decide +kernel
theorem dX10_isWord_48 : decode cX10_isWord 48 = .ok (.iconst 1, 1) := by decide +kernel
theorem dX10_isWord_49 : decode cX10_isWord 49 = .ok (.ireturn, 1) := by decide +kernel
theorem dX10_byteAt_0 : decode cX10_byteAt 0 = .ok (.aload_n 0, 1) := by decide +kernel
theorem dX10_byteAt_1 : decode cX10_byteAt 1 = .ok (.getfield 25, 3) := by decide +kernel
theorem dX10_byteAt_4 : decode cX10_byteAt 4 = .ok (.ifnull 33, 3) := by decide +kernel
theorem dX10_byteAt_7 : decode cX10_byteAt 7 = .ok (.iload_n 1, 1) := by decide +kernel
theorem dX10_byteAt_8 : decode cX10_byteAt 8 = .ok (.ifCond .lt 29, 3) := by decide +kernel
theorem dX10_byteAt_11 : decode cX10_byteAt 11 = .ok (.iload_n 1, 1) := by decide +kernel
theorem dX10_byteAt_12 : decode cX10_byteAt 12 = .ok (.aload_n 0, 1) := by decide +kernel
theorem dX10_byteAt_13 : decode cX10_byteAt 13 = .ok (.getfield 28, 3) := by decide +kernel
theorem dX10_byteAt_16 : decode cX10_byteAt 16 = .ok (.if_icmp .ge 21, 3) := by decide +kernel
theorem dX10_byteAt_19 : decode cX10_byteAt 19 = .ok (.iload_n 1, 1) := by decide +kernel
theorem dX10_byteAt_20 : decode cX10_byteAt 20 = .ok (.aload_n 0, 1) := by decide +kernel
theorem dX10_byteAt_21 : decode cX10_byteAt 21 = .ok (.getfield 25, 3) := by decide +kernel
theorem dX10_byteAt_24 : decode cX10_byteAt 24 = .ok (.arraylength, 1) := by decide +kernel
theorem dX10_byteAt_25 : decode cX10_byteAt 25 = .ok (.if_icmp .ge 12, 3) := by decide +kernel
theorem dX10_byteAt_28 : decode cX10_byteAt 28 = .ok (.aload_n 0, 1) := by decide +kernel
theorem dX10_byteAt_29 : decode cX10_byteAt 29 = .ok (.getfield 25, 3) := by decide +kernel
theorem dX10_byteAt_32 : decode cX10_byteAt 32 = .ok (.iload_n 1, 1) := by decide +kernel
theorem dX10_byteAt_33 : decode cX10_byteAt 33 = .ok (.iaload, 1) := by decide +kernel
theorem dX10_byteAt_34 : decode cX10_byteAt 34 = .ok (.goto 4, 3) := by decide +kernel
theorem dX10_byteAt_37 : decode cX10_byteAt 37 = .ok (.iconst (-1), 1) := by decide +kernel
theorem dX10_byteAt_38 : decode cX10_byteAt 38 = .ok (.ireturn, 1) := by decide +kernel
theorem dX10_isLetter_0 : decode cX10_isLetter 0 = .ok (.iload_n 0, 1) := by decide +kernel
theorem dX10_isLetter_1 : decode cX10_isLetter 1 = .ok (.bipush 97, 2) := by decide +kernel
theorem dX10_isLetter_3 : decode cX10_isLetter 3 = .ok (.if_icmp .lt 13, 3) := by decide +kernel
theorem dX10_isLetter_6 : decode cX10_isLetter 6 = .ok (.iload_n 0, 1) := by decide +kernel
theorem dX10_isLetter_7 : decode cX10_isLetter 7 = .ok (.bipush 122, 2) := by decide +kernel
theorem dX10_isLetter_9 : decode cX10_isLetter 9 = .ok (.if_icmp .gt 7, 3) := by decide +kernel
theorem dX10_isLetter_12 : decode cX10_isLetter 12 = .ok (.iconst 1, 1) := by decide +kernel
theorem dX10_isLetter_13 : decode cX10_isLetter 13 = .ok (.goto 4, 3) := by decide +kernel
theorem dX10_isLetter_16 : decode cX10_isLetter 16 = .ok (.iconst 0, 1) := by decide +kernel
theorem dX10_isLetter_17 : decode cX10_isLetter 17 = .ok (.ireturn, 1) := by decide +kernel
theorem dX10_isDigit_0 : decode cX10_isDigit 0 = .ok (.iload_n 0, 1) := by decide +kernel
theorem dX10_isDigit_1 : decode cX10_isDigit 1 = .ok (.bipush 48, 2) := by decide +kernel
theorem dX10_isDigit_3 : decode cX10_isDigit 3 = .ok (.if_icmp .lt 13, 3) := by decide +kernel
theorem dX10_isDigit_6 : decode cX10_isDigit 6 = .ok (.iload_n 0, 1) := by decide +kernel
theorem dX10_isDigit_7 : decode cX10_isDigit 7 = .ok (.bipush 57, 2) := by decide +kernel
theorem dX10_isDigit_9 : decode cX10_isDigit 9 = .ok (.if_icmp .gt 7, 3) := by decide +kernel
theorem dX10_isDigit_12 : decode cX10_isDigit 12 = .ok (.iconst 1, 1) := by decide +kernel
theorem dX10_isDigit_13 : decode cX10_isDigit 13 = .ok (.goto 4, 3) := by decide +kernel
theorem dX10_isDigit_16 : decode cX10_isDigit 16 = .ok (.iconst 0, 1) := by decide +kernel
theorem dX10_isDigit_17 : decode cX10_isDigit 17 = .ok (.ireturn, 1) := by decide +kernel
