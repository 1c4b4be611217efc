theorem dX11_init_0 : decode cX11_init 0 = .ok (.aload_n 0, 1) := by decide +kernel
theorem dX11_init_1 : decode cX11_init 1 = .ok (.invokespecial 1, 3) := by decide +kernel
theorem dX11_init_4 : decode cX11_init 4 = .ok (.aload_n 0, 1) := by decide +kernel
theorem dX11_init_5 : decode cX11_init 5 = .ok (.new 7, 3) := by decide +kernel
theorem dX11_init_8 : decode cX11_init 8 = .ok (.dup, 1) := by decide +kernel
theorem dX11_init_9 : decode cX11_init 9 = .ok (.invokespecial 9, 3) := by decide +kernel
theorem dX11_init_12 : decode cX11_init 12 = .ok (.putfield 10, 3) := by decide +kernel
theorem dX11_init_15 : decode cX11_init 15 = .ok (.aload_n 0, 1) := by decide +kernel
theorem dX11_init_16 : decode cX11_init 16 = .ok (.iconst 2, 1) := by decide +kernel
theorem dX11_init_17 : decode cX11_init 17 = .ok (.anewarray 7, 3) := by decide +kernel
theorem dX11_init_20 : decode cX11_init 20 = .ok (.putfield 16, 3) := by decide +kernel
theorem dX11_init_23 : decode cX11_init 23 = .ok (.aload_n 0, 1) := by decide +kernel
theorem dX11_init_24 : decode cX11_init 24 = .ok (.sipush 400, 3) := by decide +kernel
theorem dX11_init_27 : decode cX11_init 27 = .ok (.newarray .int, 2) := by decide +kernel
theorem dX11_init_29 : decode cX11_init 29 = .ok (.putfield 20, 3) := by decide +kernel
theorem dX11_init_32 : decode cX11_init 32 = .ok (.aload_n 0, 1) := by decide +kernel
theorem dX11_init_33 : decode cX11_init 33 = .ok (.iconst 0, 1) := by decide +kernel
theorem dX11_init_34 : decode cX11_init 34 = .ok (.putfield 24, 3) := by decide +kernel
theorem dX11_init_37 : decode cX11_init 37 = .ok (.aload_n 0, 1) := by decide +kernel
theorem dX11_init_38 : decode cX11_init 38 = .ok (.iconst (-1), 1) := by decide +kernel
theorem dX11_init_39 : decode cX11_init 39 = .ok (.putfield 28, 3) := by decide +kernel
theorem dX11_init_42 : decode cX11_init 42 = .ok (.aload_n 0, 1) := by decide +kernel
theorem dX11_init_43 : decode cX11_init 43 = .ok (.iconst 0, 1) := by decide +kernel
theorem dX11_init_44 : decode cX11_init 44 = .ok (.putfield 31, 3) := by decide +kernel
theorem dX11_init_47 : decode cX11_init 47 = .ok (.aload_n 0, 1) := by decide +kernel
theorem dX11_init_48 : decode cX11_init 48 = .ok (.iconst 4, 1) := by decide +kernel
theorem dX11_init_49 : decode cX11_init 49 = .ok (.newarray .int, 2) := by decide +kernel
theorem dX11_init_51 : decode cX11_init 51 = .ok (.putfield 34, 3) := by decide +kernel
theorem dX11_init_54 : decode cX11_init 54 = .ok (.aload_n 0, 1) := by decide +kernel
theorem dX11_init_55 : decode cX11_init 55 = .ok (.iconst 0, 1) := by decide +kernel
theorem dX11_init_56 : decode cX11_init 56 = .ok (.putfield 37, 3) := by decide +kernel
theorem dX11_init_59 : decode cX11_init 59 = .ok (.aload_n 0, 1) := by decide +kernel
theorem dX11_init_60 : decode cX11_init 60 = .ok (.new 40, 3) := by decide +kernel
theorem dX11_init_63 : decode cX11_init 63 = .ok (.dup, 1) := by decide +kernel
theorem dX11_init_64 : decode cX11_init 64 = .ok (.invokespecial 42, 3) := by decide +kernel
theorem dX11_init_67 : decode cX11_init 67 = .ok (.putfield 43, 3) := by decide +kernel
theorem dX11_init_70 : decode cX11_init 70 = .ok (.aload_n 0, 1) := by decide +kernel
theorem dX11_init_71 : decode cX11_init 71 = .ok (.new 47, 3) := by decide +kernel
theorem dX11_init_74 : decode cX11_init 74 = .ok (.dup, 1) := by decide +kernel
theorem dX11_init_75 : decode cX11_init 75 = .ok (.invokespecial 49, 3) := by decide +kernel
theorem dX11_init_78 : decode cX11_init 78 = .ok (.putfield 50, 3) := by decide +kernel
theorem dX11_init_81 : decode cX11_init 81 = .ok (.aload_n 0, 1) := by decide +kernel
theorem dX11_init_82 : decode cX11_init 82 = .ok (.new 54, 3) := by decide +kernel
theorem dX11_init_85 : decode cX11_init 85 = .ok (.dup, 1) := by decide +kernel
theorem dX11_init_86 : decode cX11_init 86 = .ok (.invokespecial 56, 3) := by decide +kernel
theorem dX11_init_89 : decode cX11_init 89 = .ok (.putfield 57, 3) := by decide +kernel
theorem dX11_init_92 : decode cX11_init 92 = .ok (.aload_n 0, 1) := by decide +kernel
theorem dX11_init_93 : decode cX11_init 93 = .ok (.new 61, 3) := by decide +kernel
theorem dX11_init_96 : decode cX11_init 96 = .ok (.dup, 1) := by decide +kernel
theorem dX11_init_97 : decode cX11_init 97 = .ok (.invokespecial 63, 3) := by decide +kernel
theorem dX11_init_100 : decode cX11_init 100 = .ok (.putfield 64, 3) := by decide +kernel
theorem dX11_init_103 : decode cX11_init 103 = .ok (.aload_n 0, 1) := by decide +kernel
theorem dX11_init_104 : decode cX11_init 104 = .ok (.new 68, 3) := by decide +kernel
theorem dX11_init_107 : decode cX11_init 107 = .ok (.dup, 1) := by decide +kernel
theorem dX11_init_108 : decode cX11_init 108 = .ok (.invokespecial 70, 3) := by decide +kernel
theorem dX11_init_111 : decode cX11_init 111 = .ok (.putfield 71, 3) := by decide +kernel
theorem dX11_init_114 : decode cX11_init 114 = .ok (.aload_n 0, 1) := by decide +kernel
theorem dX11_init_115 : decode cX11_init 115 = .ok (.new 75, 3) := by decide +kernel
theorem dX11_init_118 : decode cX11_init 118 = .ok (.dup, 1) := by decide +kernel
theorem dX11_init_119 : decode cX11_init 119 = .ok (.invokespecial 77, 3) := by decide +kernel
theorem dX11_init_122 : decode cX11_init 122 = .ok (.putfield 78, 3) := by decide +kernel
theorem dX11_init_125 : decode cX11_init 125 = .ok (.aload_n 0, 1) := by decide +kernel
theorem dX11_init_126 : decode cX11_init 126 = .ok (.sipush 2001, 3) := by decide +kernel
theorem dX11_init_129 : decode cX11_init 129 = .ok (.newarray .int, 2) := by decide +kernel
theorem dX11_init_131 : decode cX11_init 131 = .ok (.putfield 82, 3) := by decide +kernel
theorem dX11_init_134 : decode cX11_init 134 = .ok (.iconst 0, 1) := by decide +kernel
theorem dX11_init_135 : decode cX11_init 135 = .ok (.istore_n 1, 1) := by decide +kernel
theorem dX11_init_136 : decode cX11_init 136 = .ok (.iload_n 1, 1) := by decide +kernel
theorem dX11_init_137 : decode cX11_init 137 = .ok (.aload_n 0, 1) := by decide +kernel
theorem dX11_init_138 : decode cX11_init 138 = .ok (.getfield 16, 3) := by decide +kernel
theorem dX11_init_141 : decode cX11_init 141 = .ok (.arraylength, 1) := by decide +kernel
theorem dX11_init_142 : decode cX11_init 142 = .ok (.if_icmp .ge 22, 3) := by decide +kernel
theorem dX11_init_145 : decode cX11_init 145 = .ok (.aload_n 0, 1) := by decide +kernel
theorem dX11_init_146 : decode cX11_init 146 = .ok (.getfield 16, 3) := by decide +kernel
theorem dX11_init_149 : decode cX11_init 149 = .ok (.iload_n 1, 1) := by decide +kernel
theorem dX11_init_150 : decode cX11_init 150 = .ok (.new 7, 3) := by decide +kernel
theorem dX11_init_153 : decode cX11_init 153 = .ok (.dup, 1) := by decide +kernel
theorem dX11_init_154 : decode cX11_init 154 = .ok (.invokespecial 9, 3) := by decide +kernel
theorem dX11_init_157 : decode cX11_init 157 = .ok (.aastore, 1) := by decide +kernel
theorem dX11_init_158 : decode cX11_init 158 = .ok (.iinc 1 1, 3) := by decide +kernel
theorem dX11_init_161 : decode cX11_init 161 = .ok (.goto (-25), 3) := by decide +kernel
theorem dX11_init_164 : decode cX11_init 164 = .ok (.return_, 1) := by decide +kernel
theorem dX11_hand_0 : decode cX11_hand 0 = .ok (.iload_n 1, 1) := by decide +kernel
theorem dX11_hand_1 : decode cX11_hand 1 = .ok (.iconst 1, 1) := by decide +kernel
theorem dX11_hand_2 : decode cX11_hand 2 = .ok (.if_icmp .lt 10, 3) := by decide +kernel
theorem dX11_hand_5 : decode cX11_hand 5 = .ok (.iload_n 1, 1) := by decide +kernel
theorem dX11_hand_6 : decode cX11_hand 6 = .ok (.sipush 400, 3) := by decide +kernel
theorem dX11_hand_9 : decode cX11_hand 9 = .ok (.if_icmp .le 9, 3) := by decide +kernel
theorem dX11_hand_12 : decode cX11_hand 12 = .ok (.aload_n 0, 1) := by decide +kernel
theorem dX11_hand_13 : decode cX11_hand 13 = .ok (.iconst (-1), 1) := by decide +kernel
theorem dX11_hand_14 : decode cX11_hand 14 = .ok (.invokevirtual 85, 3) := by decide +kernel
theorem dX11_hand_17 : decode cX11_hand 17 = .ok (.ireturn, 1) := by decide +kernel
theorem dX11_hand_18 : decode cX11_hand 18 = .ok (.aload_n 0, 1) := by decide +kernel
theorem dX11_hand_19 : decode cX11_hand 19 = .ok (.getfield 10, 3) := by decide +kernel
theorem dX11_hand_22 : decode cX11_hand 22 = .ok (.iload_n 1, 1) := by decide +kernel
theorem dX11_hand_23 : decode cX11_hand 23 = .ok (.invokevirtual 89, 3) := by decide +kernel
theorem dX11_hand_26 : decode cX11_hand 26 = .ok (.istore_n 2, 1) := by decide +kernel
theorem dX11_hand_27 : decode cX11_hand 27 = .ok (.iload_n 2, 1) := by decide +kernel
theorem dX11_hand_28 : decode cX11_hand 28 = .ok (.iconst (-1), 1) := by decide +kernel
theorem dX11_hand_29 : decode cX11_hand 29 = .ok (.if_icmp .ne 12, 3) := by decide +kernel
theorem dX11_hand_32 : decode cX11_hand 32 = .ok (.aload_n 0, 1) := by decide +kernel
theorem dX11_hand_33 : decode cX11_hand 33 = .ok (.bipush (-5), 2) := by decide +kernel
theorem dX11_hand_35 : decode cX11_hand 35 = .ok (.invokevirtual 85, 3) := by decide +kernel
theorem dX11_hand_38 : decode cX11_hand 38 = .ok (.goto 8, 3) := by decide +kernel
theorem dX11_hand_41 : decode cX11_hand 41 = .ok (.aload_n 0, 1) := by decide +kernel
theorem dX11_hand_42 : decode cX11_hand 42 = .ok (.iload_n 2, 1) := by decide +kernel
theorem dX11_hand_43 : decode cX11_hand 43 = .ok (.invokevirtual 92, 3) := by decide +kernel
theorem dX11_hand_46 : decode cX11_hand 46 = .ok (.ireturn, 1) := by decide +kernel
theorem dX11_put_0 : decode cX11_put 0 = .ok (.iload_n 2, 1) := by decide +kernel
theorem dX11_put_1 : decode cX11_put 1 = .ok (.ifCond .lt 24, 3) := by decide +kernel
theorem dX11_put_4 : decode cX11_put 4 = .ok (.iload_n 2, 1) := by decide +kernel
theorem dX11_put_5 : decode cX11_put 5 = .ok (.iconst 1, 1) := by decide +kernel
theorem dX11_put_6 : decode cX11_put 6 = .ok (.if_icmp .gt 19, 3) := by decide +kernel
theorem dX11_put_9 : decode cX11_put 9 = .ok (.iload_n 3, 1) := by decide +kernel
theorem dX11_put_10 : decode cX11_put 10 = .ok (.ifCond .lt 15, 3) := by decide +kernel
theorem dX11_put_13 : decode cX11_put 13 = .ok (.iload_n 2, 1) := by decide +kernel
theorem dX11_put_14 : decode cX11_put 14 = .ok (.iconst 1, 1) := by decide +kernel
theorem dX11_put_15 : decode cX11_put 15 = .ok (.if_icmp .ne 16, 3) := by decide +kernel
theorem dX11_put_18 : decode cX11_put 18 = .ok (.iload_n 3, 1) := by decide +kernel
theorem dX11_put_19 : decode cX11_put 19 = .ok (.sipush 9999, 3) := by decide +kernel
theorem dX11_put_22 : decode cX11_put 22 = .ok (.if_icmp .le 9, 3) := by decide +kernel
theorem dX11_put_25 : decode cX11_put 25 = .ok (.aload_n 0, 1) := by decide +kernel
theorem dX11_put_26 : decode cX11_put 26 = .ok (.iconst (-1), 1) := by decide +kernel
theorem dX11_put_27 : decode cX11_put 27 = .ok (.invokevirtual 85, 3) := by decide +kernel
theorem dX11_put_30 : decode cX11_put 30 = .ok (.ireturn, 1) := by decide +kernel
theorem dX11_put_31 : decode cX11_put 31 = .ok (.aload_n 0, 1) := by decide +kernel
theorem dX11_put_32 : decode cX11_put 32 = .ok (.getfield 10, 3) := by decide +kernel
theorem dX11_put_35 : decode cX11_put 35 = .ok (.iload_n 1, 1) := by decide +kernel
theorem dX11_put_36 : decode cX11_put 36 = .ok (.invokevirtual 95, 3) := by decide +kernel
theorem dX11_put_39 : decode cX11_put 39 = .ok (.astore 4, 2) := by decide +kernel
theorem dX11_put_41 : decode cX11_put 41 = .ok (.aload 4, 2) := by decide +kernel
theorem dX11_put_43 : decode cX11_put 43 = .ok (.ifnonnull 10, 3) := by decide +kernel
theorem dX11_put_46 : decode cX11_put 46 = .ok (.aload_n 0, 1) := by decide +kernel
theorem dX11_put_47 : decode cX11_put 47 = .ok (.bipush (-2), 2) := by decide +kernel
theorem dX11_put_49 : decode cX11_put 49 = .ok (.invokevirtual 85, 3) := by decide +kernel
theorem dX11_put_52 : decode cX11_put 52 = .ok (.ireturn, 1) := by decide +kernel
theorem dX11_put_53 : decode cX11_put 53 = .ok (.iload_n 2, 1) := by decide +kernel
theorem dX11_put_54 : decode cX11_put 54 = .ok (.iconst 1, 1) := by decide +kernel
theorem dX11_put_55 : decode cX11_put 55 = .ok (.if_icmp .ne 23, 3) := by decide +kernel
theorem dX11_put_58 : decode cX11_put 58 = .ok (.aload 4, 2) := by decide +kernel
theorem dX11_put_60 : decode cX11_put 60 = .ok (.getfield 99, 3) := by decide +kernel
theorem dX11_put_63 : decode cX11_put 63 = .ok (.istore 5, 2) := by decide +kernel
theorem dX11_put_65 : decode cX11_put 65 = .ok (.aload 4, 2) := by decide +kernel
theorem dX11_put_67 : decode cX11_put 67 = .ok (.iload_n 3, 1) := by decide +kernel
theorem dX11_put_68 : decode cX11_put 68 = .ok (.putfield 99, 3) := by decide +kernel
theorem dX11_put_71 : decode cX11_put 71 = .ok (.aload_n 0, 1) := by decide +kernel
theorem dX11_put_72 : decode cX11_put 72 = .ok (.iload 5, 2) := by decide +kernel
theorem dX11_put_74 : decode cX11_put 74 = .ok (.invokevirtual 92, 3) := by decide +kernel
theorem dX11_put_77 : decode cX11_put 77 = .ok (.ireturn, 1) := by decide +kernel
theorem dX11_put_78 : decode cX11_put 78 = .ok (.iload_n 3, 1) := by decide +kernel
theorem dX11_put_79 : decode cX11_put 79 = .ok (.aload 4, 2) := by decide +kernel
theorem dX11_put_81 : decode cX11_put 81 = .ok (.getfield 104, 3) := by decide +kernel
theorem dX11_put_84 : decode cX11_put 84 = .ok (.if_icmp .lt 9, 3) := by decide +kernel
theorem dX11_put_87 : decode cX11_put 87 = .ok (.aload_n 0, 1) := by decide +kernel
theorem dX11_put_88 : decode cX11_put 88 = .ok (.iconst (-1), 1) := by decide +kernel
theorem dX11_put_89 : decode cX11_put 89 = .ok (.invokevirtual 85, 3) := by decide +kernel
theorem dX11_put_92 : decode cX11_put 92 = .ok (.ireturn, 1) := by decide +kernel
theorem dX11_put_93 : decode cX11_put 93 = .ok (.aload 4, 2) := by decide +kernel
theorem dX11_put_95 : decode cX11_put 95 = .ok (.getfield 107, 3) := by decide +kernel
theorem dX11_put_98 : decode cX11_put 98 = .ok (.istore 5, 2) := by decide +kernel
theorem dX11_put_100 : decode cX11_put 100 = .ok (.aload 4, 2) := by decide +kernel
theorem dX11_put_102 : decode cX11_put 102 = .ok (.iload_n 3, 1) := by decide +kernel
theorem dX11_put_103 : decode cX11_put 103 = .ok (.putfield 107, 3) := by decide +kernel
theorem dX11_put_106 : decode cX11_put 106 = .ok (.aload_n 0, 1) := by decide +kernel
theorem dX11_put_107 : decode cX11_put 107 = .ok (.iload 5, 2) := by decide +kernel
theorem dX11_put_109 : decode cX11_put 109 = .ok (.invokevirtual 92, 3) := by decide +kernel
theorem dX11_put_112 : decode cX11_put 112 = .ok (.ireturn, 1) := by decide +kernel
theorem dX11_pair_0 : decode cX11_pair 0 = .ok (.iload_n 2, 1) := by decide +kernel
theorem dX11_pair_1 : decode cX11_pair 1 = .ok (.invokestatic 110, 3) := by decide +kernel
theorem dX11_pair_4 : decode cX11_pair 4 = .ok (.ifCond .eq 10, 3) := by decide +kernel
theorem dX11_pair_7 : decode cX11_pair 7 = .ok (.iload_n 3, 1) := by decide +kernel
theorem dX11_pair_8 : decode cX11_pair 8 = .ok (.invokestatic 110, 3) := by decide +kernel
theorem dX11_pair_11 : decode cX11_pair 11 = .ok (.ifCond .ne 9, 3) := by decide +kernel
theorem dX11_pair_14 : decode cX11_pair 14 = .ok (.aload_n 0, 1) := by decide +kernel
theorem dX11_pair_15 : decode cX11_pair 15 = .ok (.iconst (-1), 1) := by decide +kernel
theorem dX11_pair_16 : decode cX11_pair 16 = .ok (.invokevirtual 85, 3) := by decide +kernel
theorem dX11_pair_19 : decode cX11_pair 19 = .ok (.ireturn, 1) := by decide +kernel
theorem dX11_pair_20 : decode cX11_pair 20 = .ok (.aload_n 0, 1) := by decide +kernel
theorem dX11_pair_21 : decode cX11_pair 21 = .ok (.getfield 10, 3) := by decide +kernel
theorem dX11_pair_24 : decode cX11_pair 24 = .ok (.iload_n 1, 1) := by decide +kernel
theorem dX11_pair_25 : decode cX11_pair 25 = .ok (.invokevirtual 95, 3) := by decide +kernel
theorem dX11_pair_28 : decode cX11_pair 28 = .ok (.astore 4, 2) := by decide +kernel
theorem dX11_pair_30 : decode cX11_pair 30 = .ok (.aload 4, 2) := by decide +kernel
theorem dX11_pair_32 : decode cX11_pair 32 = .ok (.ifnonnull 10, 3) := by decide +kernel
theorem dX11_pair_35 : decode cX11_pair 35 = .ok (.aload_n 0, 1) := by decide +kernel
theorem dX11_pair_36 : decode cX11_pair 36 = .ok (.bipush (-2), 2) := by decide +kernel
theorem dX11_pair_38 : decode cX11_pair 38 = .ok (.invokevirtual 85, 3) := by decide +kernel
theorem dX11_pair_41 : decode cX11_pair 41 = .ok (.ireturn, 1) := by decide +kernel
theorem dX11_pair_42 : decode cX11_pair 42 = .ok (.aload 4, 2) := by decide +kernel
theorem dX11_pair_44 : decode cX11_pair 44 = .ok (.iload_n 2, 1) := by decide +kernel
theorem dX11_pair_45 : decode cX11_pair 45 = .ok (.iload_n 3, 1) := by decide +kernel
theorem dX11_pair_46 : decode cX11_pair 46 = .ok (.invokevirtual 114, 3) := by decide +kernel
theorem dX11_pair_49 : decode cX11_pair 49 = .ok (.ifCond .eq 15, 3) := by decide +kernel
theorem dX11_pair_52 : decode cX11_pair 52 = .ok (.aload_n 0, 1) := by decide +kernel
theorem dX11_pair_53 : decode cX11_pair 53 = .ok (.aload 4, 2) := by decide +kernel
theorem dX11_pair_55 : decode cX11_pair 55 = .ok (.getfield 118, 3) := by decide +kernel
theorem dX11_pair_58 : decode cX11_pair 58 = .ok (.invokevirtual 92, 3) := by decide +kernel
theorem dX11_pair_61 : decode cX11_pair 61 = .ok (.goto 9, 3) := by decide +kernel
theorem dX11_pair_64 : decode cX11_pair 64 = .ok (.aload_n 0, 1) := by decide +kernel
theorem dX11_pair_65 : decode cX11_pair 65 = .ok (.bipush (-5), 2) := by decide +kernel
theorem dX11_pair_67 : decode cX11_pair 67 = .ok (.invokevirtual 85, 3) := by decide +kernel
theorem dX11_pair_70 : decode cX11_pair 70 = .ok (.ireturn, 1) := by decide +kernel
theorem dX11_strip_0 : decode cX11_strip 0 = .ok (.aload_n 0, 1) := by decide +kernel
theorem dX11_strip_1 : decode cX11_strip 1 = .ok (.getfield 10, 3) := by decide +kernel
theorem dX11_strip_4 : decode cX11_strip 4 = .ok (.iload_n 1, 1) := by decide +kernel
theorem dX11_strip_5 : decode cX11_strip 5 = .ok (.invokevirtual 95, 3) := by decide +kernel
theorem dX11_strip_8 : decode cX11_strip 8 = .ok (.astore_n 2, 1) := by decide +kernel
theorem dX11_strip_9 : decode cX11_strip 9 = .ok (.aload_n 2, 1) := by decide +kernel
theorem dX11_strip_10 : decode cX11_strip 10 = .ok (.ifnonnull 10, 3) := by decide +kernel
theorem dX11_strip_13 : decode cX11_strip 13 = .ok (.aload_n 0, 1) := by decide +kernel
theorem dX11_strip_14 : decode cX11_strip 14 = .ok (.bipush (-2), 2) := by decide +kernel
theorem dX11_strip_16 : decode cX11_strip 16 = .ok (.invokevirtual 85, 3) := by decide +kernel
theorem dX11_strip_19 : decode cX11_strip 19 = .ok (.ireturn, 1) := by decide +kernel
theorem dX11_strip_20 : decode cX11_strip 20 = .ok (.aload_n 2, 1) := by decide +kernel
theorem dX11_strip_21 : decode cX11_strip 21 = .ok (.getfield 118, 3) := by decide +kernel
theorem dX11_strip_24 : decode cX11_strip 24 = .ok (.istore_n 3, 1) := by decide +kernel
theorem dX11_strip_25 : decode cX11_strip 25 = .ok (.aload_n 2, 1) := by decide +kernel
theorem dX11_strip_26 : decode cX11_strip 26 = .ok (.invokevirtual 121, 3) := by decide +kernel
theorem dX11_strip_29 : decode cX11_strip 29 = .ok (.aload_n 0, 1) := by decide +kernel
theorem dX11_strip_30 : decode cX11_strip 30 = .ok (.iload_n 3, 1) := by decide +kernel
theorem dX11_strip_31 : decode cX11_strip 31 = .ok (.invokevirtual 92, 3) := by decide +kernel
theorem dX11_strip_34 : decode cX11_strip 34 = .ok (.ireturn, 1) := by decide +kernel
theorem dX11_of_0 : decode cX11_of 0 = .ok (.aload_n 0, 1) := by decide +kernel
theorem dX11_of_1 : decode cX11_of 1 = .ok (.getfield 10, 3) := by decide +kernel
theorem dX11_of_4 : decode cX11_of 4 = .ok (.iload_n 1, 1) := by decide +kernel
theorem dX11_of_5 : decode cX11_of 5 = .ok (.invokevirtual 95, 3) := by decide +kernel
theorem dX11_of_8 : decode cX11_of 8 = .ok (.astore_n 3, 1) := by decide +kernel
theorem dX11_of_9 : decode cX11_of 9 = .ok (.aload_n 3, 1) := by decide +kernel
theorem dX11_of_10 : decode cX11_of 10 = .ok (.ifnonnull 5, 3) := by decide +kernel
theorem dX11_of_13 : decode cX11_of 13 = .ok (.iconst (-1), 1) := by decide +kernel
theorem dX11_of_14 : decode cX11_of 14 = .ok (.ireturn, 1) := by decide +kernel
theorem dX11_of_15 : decode cX11_of 15 = .ok (.iload_n 2, 1) := by decide +kernel
theorem dX11_of_16 : decode cX11_of 16 = .ok (.tableswitch 52 0 3 #[32, 37, 42, 47], 32) := by decide +kernel
theorem dX11_of_48 : decode cX11_of 48 = .ok (.aload_n 3, 1) := by decide +kernel
theorem dX11_of_49 : decode cX11_of 49 = .ok (.getfield 104, 3) := by decide +kernel
theorem dX11_of_52 : decode cX11_of 52 = .ok (.ireturn, 1) := by decide +kernel
theorem dX11_of_53 : decode cX11_of 53 = .ok (.aload_n 3, 1) := by decide +kernel
theorem dX11_of_54 : decode cX11_of 54 = .ok (.getfield 107, 3) := by decide +kernel
theorem dX11_of_57 : decode cX11_of 57 = .ok (.ireturn, 1) := by decide +kernel
theorem dX11_of_58 : decode cX11_of 58 = .ok (.aload_n 3, 1) := by decide +kernel
theorem dX11_of_59 : decode cX11_of 59 = .ok (.getfield 99, 3) := by decide +kernel
theorem dX11_of_62 : decode cX11_of 62 = .ok (.ireturn, 1) := by decide +kernel
theorem dX11_of_63 : decode cX11_of 63 = .ok (.aload_n 3, 1) := by decide +kernel
theorem dX11_of_64 : decode cX11_of 64 = .ok (.getfield 118, 3) := by decide +kernel
theorem dX11_of_67 : decode cX11_of 67 = .ok (.ireturn, 1) := by decide +kernel
theorem dX11_of_68 : decode cX11_of 68 = .ok (.iload_n 2, 1) := by decide +kernel
theorem dX11_of_69 : decode cX11_of 69 = .ok (.iconst 4, 1) := by decide +kernel
theorem dX11_of_70 : decode cX11_of 70 = .ok (.if_icmp .ge 7, 3) := by decide +kernel
theorem dX11_of_73 : decode cX11_of 73 = .ok (.iconst (-1), 1) := by decide +kernel
theorem dX11_of_74 : decode cX11_of 74 = .ok (.goto 10, 3) := by decide +kernel
theorem dX11_of_77 : decode cX11_of 77 = .ok (.aload_n 3, 1) := by decide +kernel
theorem dX11_of_78 : decode cX11_of 78 = .ok (.iload_n 2, 1) := by decide +kernel
theorem dX11_of_79 : decode cX11_of 79 = .ok (.iconst 4, 1) := by decide +kernel
theorem dX11_of_80 : decode cX11_of 80 = .ok (.isub, 1) := by decide +kernel
theorem dX11_of_81 : decode cX11_of 81 = .ok (.invokevirtual 124, 3) := by decide +kernel
theorem dX11_of_84 : decode cX11_of 84 = .ok (.ireturn, 1) := by decide +kernel
theorem dX11_wheel_0 : decode cX11_wheel 0 = .ok (.iload_n 1, 1) := by decide +kernel
theorem dX11_wheel_1 : decode cX11_wheel 1 = .ok (.invokestatic 110, 3) := by decide +kernel
theorem dX11_wheel_4 : decode cX11_wheel 4 = .ok (.ifCond .ne 9, 3) := by decide +kernel
theorem dX11_wheel_7 : decode cX11_wheel 7 = .ok (.aload_n 0, 1) := by decide +kernel
theorem dX11_wheel_8 : decode cX11_wheel 8 = .ok (.iconst (-1), 1) := by decide +kernel
theorem dX11_wheel_9 : decode cX11_wheel 9 = .ok (.invokevirtual 85, 3) := by decide +kernel
theorem dX11_wheel_12 : decode cX11_wheel 12 = .ok (.ireturn, 1) := by decide +kernel
theorem dX11_wheel_13 : decode cX11_wheel 13 = .ok (.aload_n 0, 1) := by decide +kernel
theorem dX11_wheel_14 : decode cX11_wheel 14 = .ok (.getfield 10, 3) := by decide +kernel
theorem dX11_wheel_17 : decode cX11_wheel 17 = .ok (.iload_n 1, 1) := by decide +kernel
theorem dX11_wheel_18 : decode cX11_wheel 18 = .ok (.invokevirtual 127, 3) := by decide +kernel
theorem dX11_wheel_21 : decode cX11_wheel 21 = .ok (.istore_n 2, 1) := by decide +kernel
theorem dX11_wheel_22 : decode cX11_wheel 22 = .ok (.iload_n 2, 1) := by decide +kernel
theorem dX11_wheel_23 : decode cX11_wheel 23 = .ok (.iconst (-1), 1) := by decide +kernel
theorem dX11_wheel_24 : decode cX11_wheel 24 = .ok (.if_icmp .ne 12, 3) := by decide +kernel
theorem dX11_wheel_27 : decode cX11_wheel 27 = .ok (.aload_n 0, 1) := by decide +kernel
theorem dX11_wheel_28 : decode cX11_wheel 28 = .ok (.bipush (-5), 2) := by decide +kernel
theorem dX11_wheel_30 : decode cX11_wheel 30 = .ok (.invokevirtual 85, 3) := by decide +kernel
theorem dX11_wheel_33 : decode cX11_wheel 33 = .ok (.goto 8, 3) := by decide +kernel
theorem dX11_wheel_36 : decode cX11_wheel 36 = .ok (.aload_n 0, 1) := by decide +kernel
theorem dX11_wheel_37 : decode cX11_wheel 37 = .ok (.iload_n 2, 1) := by decide +kernel
theorem dX11_wheel_38 : decode cX11_wheel 38 = .ok (.invokevirtual 92, 3) := by decide +kernel
theorem dX11_wheel_41 : decode cX11_wheel 41 = .ok (.ireturn, 1) := by decide +kernel
theorem dX11_drop_0 : decode cX11_drop 0 = .ok (.aload_n 0, 1) := by decide +kernel
theorem dX11_drop_1 : decode cX11_drop 1 = .ok (.getfield 10, 3) := by decide +kernel
theorem dX11_drop_4 : decode cX11_drop 4 = .ok (.iload_n 1, 1) := by decide +kernel
theorem dX11_drop_5 : decode cX11_drop 5 = .ok (.invokevirtual 130, 3) := by decide +kernel
theorem dX11_drop_8 : decode cX11_drop 8 = .ok (.ifCond .eq 17, 3) := by decide +kernel
theorem dX11_drop_11 : decode cX11_drop 11 = .ok (.aload_n 0, 1) := by decide +kernel
theorem dX11_drop_12 : decode cX11_drop 12 = .ok (.aload_n 0, 1) := by decide +kernel
theorem dX11_drop_13 : decode cX11_drop 13 = .ok (.getfield 10, 3) := by decide +kernel
theorem dX11_drop_16 : decode cX11_drop 16 = .ok (.getfield 133, 3) := by decide +kernel
theorem dX11_drop_19 : decode cX11_drop 19 = .ok (.invokevirtual 92, 3) := by decide +kernel
theorem dX11_drop_22 : decode cX11_drop 22 = .ok (.goto 9, 3) := by decide +kernel
theorem dX11_drop_25 : decode cX11_drop 25 = .ok (.aload_n 0, 1) := by decide +kernel
theorem dX11_drop_26 : decode cX11_drop 26 = .ok (.bipush (-2), 2) := by decide +kernel
theorem dX11_drop_28 : decode cX11_drop 28 = .ok (.invokevirtual 85, 3) := by decide +kernel
theorem dX11_drop_31 : decode cX11_drop 31 = .ok (.ireturn, 1) := by decide +kernel
theorem dX11_teeth_0 : decode cX11_teeth 0 = .ok (.aload_n 0, 1) := by decide +kernel
theorem dX11_teeth_1 : decode cX11_teeth 1 = .ok (.getfield 10, 3) := by decide +kernel
theorem dX11_teeth_4 : decode cX11_teeth 4 = .ok (.iload_n 1, 1) := by decide +kernel
theorem dX11_teeth_5 : decode cX11_teeth 5 = .ok (.invokevirtual 136, 3) := by decide +kernel
theorem dX11_teeth_8 : decode cX11_teeth 8 = .ok (.ireturn, 1) := by decide +kernel
theorem dX11_terms_0 : decode cX11_terms 0 = .ok (.iload_n 1, 1) := by decide +kernel
theorem dX11_terms_1 : decode cX11_terms 1 = .ok (.ifCond .ne 14, 3) := by decide +kernel
theorem dX11_terms_4 : decode cX11_terms 4 = .ok (.iload_n 2, 1) := by decide +kernel
theorem dX11_terms_5 : decode cX11_terms 5 = .ok (.iconst 1, 1) := by decide +kernel
theorem dX11_terms_6 : decode cX11_terms 6 = .ok (.if_icmp .lt 9, 3) := by decide +kernel
theorem dX11_terms_9 : decode cX11_terms 9 = .ok (.iload_n 2, 1) := by decide +kernel
theorem dX11_terms_10 : decode cX11_terms 10 = .ok (.ldc 139, 2) := by decide +kernel
theorem dX11_terms_12 : decode cX11_terms 12 = .ok (.if_icmp .le 9, 3) := by decide +kernel
theorem dX11_terms_15 : decode cX11_terms 15 = .ok (.aload_n 0, 1) := by decide +kernel
theorem dX11_terms_16 : decode cX11_terms 16 = .ok (.iconst (-1), 1) := by decide +kernel
theorem dX11_terms_17 : decode cX11_terms 17 = .ok (.invokevirtual 85, 3) := by decide +kernel
theorem dX11_terms_20 : decode cX11_terms 20 = .ok (.ireturn, 1) := by decide +kernel
theorem dX11_terms_21 : decode cX11_terms 21 = .ok (.aload_n 0, 1) := by decide +kernel
theorem dX11_terms_22 : decode cX11_terms 22 = .ok (.getfield 10, 3) := by decide +kernel
theorem dX11_terms_25 : decode cX11_terms 25 = .ok (.getfield 140, 3) := by decide +kernel
theorem dX11_terms_28 : decode cX11_terms 28 = .ok (.istore_n 3, 1) := by decide +kernel
theorem dX11_terms_29 : decode cX11_terms 29 = .ok (.aload_n 0, 1) := by decide +kernel
theorem dX11_terms_30 : decode cX11_terms 30 = .ok (.getfield 10, 3) := by decide +kernel
theorem dX11_terms_33 : decode cX11_terms 33 = .ok (.iload_n 2, 1) := by decide +kernel
theorem dX11_terms_34 : decode cX11_terms 34 = .ok (.putfield 140, 3) := by decide +kernel
theorem dX11_terms_37 : decode cX11_terms 37 = .ok (.aload_n 0, 1) := by decide +kernel
theorem dX11_terms_38 : decode cX11_terms 38 = .ok (.iload_n 3, 1) := by decide +kernel
theorem dX11_terms_39 : decode cX11_terms 39 = .ok (.invokevirtual 92, 3) := by decide +kernel
theorem dX11_terms_42 : decode cX11_terms 42 = .ok (.ireturn, 1) := by decide +kernel
theorem dX11_feed_0 : decode cX11_feed 0 = .ok (.aload_n 0, 1) := by decide +kernel
theorem dX11_feed_1 : decode cX11_feed 1 = .ok (.getfield 24, 3) := by decide +kernel
theorem dX11_feed_4 : decode cX11_feed 4 = .ok (.bipush 20, 2) := by decide +kernel
theorem dX11_feed_6 : decode cX11_feed 6 = .ok (.iadd, 1) := by decide +kernel
theorem dX11_feed_7 : decode cX11_feed 7 = .ok (.sipush 400, 3) := by decide +kernel
theorem dX11_feed_10 : decode cX11_feed 10 = .ok (.if_icmp .le 5, 3) := by decide +kernel
theorem dX11_feed_13 : decode cX11_feed 13 = .ok (.iconst (-1), 1) := by decide +kernel
theorem dX11_feed_14 : decode cX11_feed 14 = .ok (.ireturn, 1) := by decide +kernel
theorem dX11_feed_15 : decode cX11_feed 15 = .ok (.aload_n 0, 1) := by decide +kernel
theorem dX11_feed_16 : decode cX11_feed 16 = .ok (.iload_n 1, 1) := by decide +kernel
theorem dX11_feed_17 : decode cX11_feed 17 = .ok (.invokevirtual 143, 3) := by decide +kernel
theorem dX11_feed_20 : decode cX11_feed 20 = .ok (.aload_n 0, 1) := by decide +kernel
theorem dX11_feed_21 : decode cX11_feed 21 = .ok (.iload_n 2, 1) := by decide +kernel
theorem dX11_feed_22 : decode cX11_feed 22 = .ok (.invokevirtual 143, 3) := by decide +kernel
theorem dX11_feed_25 : decode cX11_feed 25 = .ok (.aload_n 0, 1) := by decide +kernel
theorem dX11_feed_26 : decode cX11_feed 26 = .ok (.iload_n 3, 1) := by decide +kernel
theorem dX11_feed_27 : decode cX11_feed 27 = .ok (.invokevirtual 143, 3) := by decide +kernel
theorem dX11_feed_30 : decode cX11_feed 30 = .ok (.aload_n 0, 1) := by decide +kernel
theorem dX11_feed_31 : decode cX11_feed 31 = .ok (.iload 4, 2) := by decide +kernel
theorem dX11_feed_33 : decode cX11_feed 33 = .ok (.invokevirtual 143, 3) := by decide +kernel
theorem dX11_feed_36 : decode cX11_feed 36 = .ok (.aload_n 0, 1) := by decide +kernel
theorem dX11_feed_37 : decode cX11_feed 37 = .ok (.iload 5, 2) := by decide +kernel
theorem dX11_feed_39 : decode cX11_feed 39 = .ok (.invokevirtual 143, 3) := by decide +kernel
theorem dX11_feed_42 : decode cX11_feed 42 = .ok (.aload_n 0, 1) := by decide +kernel
theorem dX11_feed_43 : decode cX11_feed 43 = .ok (.getfield 24, 3) := by decide +kernel
theorem dX11_feed_46 : decode cX11_feed 46 = .ok (.ireturn, 1) := by decide +kernel
theorem dX11_end_0 : decode cX11_end 0 = .ok (.iload_n 1, 1) := by decide +kernel
theorem dX11_end_1 : decode cX11_end 1 = .ok (.ifCond .lt 11, 3) := by decide +kernel
theorem dX11_end_4 : decode cX11_end 4 = .ok (.iload_n 1, 1) := by decide +kernel
theorem dX11_end_5 : decode cX11_end 5 = .ok (.aload_n 0, 1) := by decide +kernel
theorem dX11_end_6 : decode cX11_end 6 = .ok (.getfield 24, 3) := by decide +kernel
theorem dX11_end_9 : decode cX11_end 9 = .ok (.if_icmp .le 5, 3) := by decide +kernel
theorem dX11_end_12 : decode cX11_end 12 = .ok (.iconst (-1), 1) := by decide +kernel
theorem dX11_end_13 : decode cX11_end 13 = .ok (.ireturn, 1) := by decide +kernel
theorem dX11_end_14 : decode cX11_end 14 = .ok (.aload_n 0, 1) := by decide +kernel
theorem dX11_end_15 : decode cX11_end 15 = .ok (.iload_n 1, 1) := by decide +kernel
theorem dX11_end_16 : decode cX11_end 16 = .ok (.putfield 24, 3) := by decide +kernel
theorem dX11_end_19 : decode cX11_end 19 = .ok (.iload_n 1, 1) := by decide +kernel
theorem dX11_end_20 : decode cX11_end 20 = .ok (.ireturn, 1) := by decide +kernel
theorem dX11_row_0 : decode cX11_row 0 = .ok (.aload_n 0, 1) := by decide +kernel
theorem dX11_row_1 : decode cX11_row 1 = .ok (.getfield 24, 3) := by decide +kernel
theorem dX11_row_4 : decode cX11_row 4 = .ok (.ifCond .ne 10, 3) := by decide +kernel
theorem dX11_row_7 : decode cX11_row 7 = .ok (.aload_n 0, 1) := by decide +kernel
theorem dX11_row_8 : decode cX11_row 8 = .ok (.bipush (-6), 2) := by decide +kernel
theorem dX11_row_10 : decode cX11_row 10 = .ok (.invokevirtual 85, 3) := by decide +kernel
theorem dX11_row_13 : decode cX11_row 13 = .ok (.ireturn, 1) := by decide +kernel
theorem dX11_row_14 : decode cX11_row 14 = .ok (.iconst 0, 1) := by decide +kernel
theorem dX11_row_15 : decode cX11_row 15 = .ok (.istore_n 1, 1) := by decide +kernel
theorem dX11_row_16 : decode cX11_row 16 = .ok (.iconst 0, 1) := by decide +kernel
theorem dX11_row_17 : decode cX11_row 17 = .ok (.istore_n 2, 1) := by decide +kernel
theorem dX11_row_18 : decode cX11_row 18 = .ok (.iload_n 2, 1) := by decide +kernel
theorem dX11_row_19 : decode cX11_row 19 = .ok (.aload_n 0, 1) := by decide +kernel
theorem dX11_row_20 : decode cX11_row 20 = .ok (.getfield 24, 3) := by decide +kernel
theorem dX11_row_23 : decode cX11_row 23 = .ok (.if_icmp .ge 50, 3) := by decide +kernel
theorem dX11_row_26 : decode cX11_row 26 = .ok (.iload_n 2, 1) := by decide +kernel
theorem dX11_row_27 : decode cX11_row 27 = .ok (.aload_n 0, 1) := by decide +kernel
theorem dX11_row_28 : decode cX11_row 28 = .ok (.getfield 20, 3) := by decide +kernel
theorem dX11_row_31 : decode cX11_row 31 = .ok (.arraylength, 1) := by decide +kernel
theorem dX11_row_32 : decode cX11_row 32 = .ok (.if_icmp .ge 41, 3) := by decide +kernel
theorem dX11_row_35 : decode cX11_row 35 = .ok (.aload_n 0, 1) := by decide +kernel
theorem dX11_row_36 : decode cX11_row 36 = .ok (.getfield 20, 3) := by decide +kernel
theorem dX11_row_39 : decode cX11_row 39 = .ok (.iload_n 2, 1) := by decide +kernel
theorem dX11_row_40 : decode cX11_row 40 = .ok (.iaload, 1) := by decide +kernel
theorem dX11_row_41 : decode cX11_row 41 = .ok (.invokestatic 110, 3) := by decide +kernel
theorem dX11_row_44 : decode cX11_row 44 = .ok (.ifCond .eq 23, 3) := by decide +kernel
theorem dX11_row_47 : decode cX11_row 47 = .ok (.aload_n 0, 1) := by decide +kernel
theorem dX11_row_48 : decode cX11_row 48 = .ok (.getfield 10, 3) := by decide +kernel
theorem dX11_row_51 : decode cX11_row 51 = .ok (.aload_n 0, 1) := by decide +kernel
theorem dX11_row_52 : decode cX11_row 52 = .ok (.getfield 20, 3) := by decide +kernel
theorem dX11_row_55 : decode cX11_row 55 = .ok (.iload_n 2, 1) := by decide +kernel
theorem dX11_row_56 : decode cX11_row 56 = .ok (.iaload, 1) := by decide +kernel
theorem dX11_row_57 : decode cX11_row 57 = .ok (.invokevirtual 127, 3) := by decide +kernel
theorem dX11_row_60 : decode cX11_row 60 = .ok (.iconst (-1), 1) := by decide +kernel
theorem dX11_row_61 : decode cX11_row 61 = .ok (.if_icmp .eq 6, 3) := by decide +kernel
theorem dX11_row_64 : decode cX11_row 64 = .ok (.iinc 1 1, 3) := by decide +kernel
theorem dX11_row_67 : decode cX11_row 67 = .ok (.iinc 2 1, 3) := by decide +kernel
theorem dX11_row_70 : decode cX11_row 70 = .ok (.goto (-52), 3) := by decide +kernel
theorem dX11_row_73 : decode cX11_row 73 = .ok (.aload_n 0, 1) := by decide +kernel
theorem dX11_row_74 : decode cX11_row 74 = .ok (.aload_n 0, 1) := by decide +kernel
theorem dX11_row_75 : decode cX11_row 75 = .ok (.getfield 24, 3) := by decide +kernel
theorem dX11_row_78 : decode cX11_row 78 = .ok (.iload_n 1, 1) := by decide +kernel
theorem dX11_row_79 : decode cX11_row 79 = .ok (.isub, 1) := by decide +kernel
theorem dX11_row_80 : decode cX11_row 80 = .ok (.putfield 31, 3) := by decide +kernel
theorem dX11_row_83 : decode cX11_row 83 = .ok (.aload_n 0, 1) := by decide +kernel
theorem dX11_row_84 : decode cX11_row 84 = .ok (.iconst 0, 1) := by decide +kernel
theorem dX11_row_85 : decode cX11_row 85 = .ok (.putfield 24, 3) := by decide +kernel
theorem dX11_row_88 : decode cX11_row 88 = .ok (.aload_n 0, 1) := by decide +kernel
theorem dX11_row_89 : decode cX11_row 89 = .ok (.iload_n 1, 1) := by decide +kernel
theorem dX11_row_90 : decode cX11_row 90 = .ok (.invokevirtual 92, 3) := by decide +kernel
theorem dX11_row_93 : decode cX11_row 93 = .ok (.ireturn, 1) := by decide +kernel
theorem dX11_bent_0 : decode cX11_bent 0 = .ok (.aload_n 0, 1) := by decide +kernel
theorem dX11_bent_1 : decode cX11_bent 1 = .ok (.getfield 31, 3) := by decide +kernel
theorem dX11_bent_4 : decode cX11_bent 4 = .ok (.ireturn, 1) := by decide +kernel
theorem dX11_law_0 : decode cX11_law 0 = .ok (.aload_n 0, 1) := by decide +kernel
theorem dX11_law_1 : decode cX11_law 1 = .ok (.getfield 24, 3) := by decide +kernel
theorem dX11_law_4 : decode cX11_law 4 = .ok (.istore_n 1, 1) := by decide +kernel
theorem dX11_law_5 : decode cX11_law 5 = .ok (.aload_n 0, 1) := by decide +kernel
theorem dX11_law_6 : decode cX11_law 6 = .ok (.iconst 0, 1) := by decide +kernel
theorem dX11_law_7 : decode cX11_law 7 = .ok (.putfield 24, 3) := by decide +kernel
theorem dX11_law_10 : decode cX11_law 10 = .ok (.aload_n 0, 1) := by decide +kernel
theorem dX11_law_11 : decode cX11_law 11 = .ok (.getfield 10, 3) := by decide +kernel
theorem dX11_law_14 : decode cX11_law 14 = .ok (.getfield 147, 3) := by decide +kernel
theorem dX11_law_17 : decode cX11_law 17 = .ok (.bipush 6, 2) := by decide +kernel
theorem dX11_law_19 : decode cX11_law 19 = .ok (.if_icmp .lt 10, 3) := by decide +kernel
theorem dX11_law_22 : decode cX11_law 22 = .ok (.aload_n 0, 1) := by decide +kernel
theorem dX11_law_23 : decode cX11_law 23 = .ok (.bipush (-5), 2) := by decide +kernel
theorem dX11_law_25 : decode cX11_law 25 = .ok (.invokevirtual 85, 3) := by decide +kernel
theorem dX11_law_28 : decode cX11_law 28 = .ok (.ireturn, 1) := by decide +kernel
theorem dX11_law_29 : decode cX11_law 29 = .ok (.aload_n 0, 1) := by decide +kernel
theorem dX11_law_30 : decode cX11_law 30 = .ok (.getfield 43, 3) := by decide +kernel
theorem dX11_law_33 : decode cX11_law 33 = .ok (.aload_n 0, 1) := by decide +kernel
theorem dX11_law_34 : decode cX11_law 34 = .ok (.getfield 20, 3) := by decide +kernel
theorem dX11_law_37 : decode cX11_law 37 = .ok (.iload_n 1, 1) := by decide +kernel
theorem dX11_law_38 : decode cX11_law 38 = .ok (.invokevirtual 150, 3) := by decide +kernel
theorem dX11_law_41 : decode cX11_law 41 = .ok (.astore_n 2, 1) := by decide +kernel
theorem dX11_law_42 : decode cX11_law 42 = .ok (.aload_n 0, 1) := by decide +kernel
theorem dX11_law_43 : decode cX11_law 43 = .ok (.aload_n 0, 1) := by decide +kernel
theorem dX11_law_44 : decode cX11_law 44 = .ok (.getfield 43, 3) := by decide +kernel
theorem dX11_law_47 : decode cX11_law 47 = .ok (.getfield 154, 3) := by decide +kernel
theorem dX11_law_50 : decode cX11_law 50 = .ok (.putfield 28, 3) := by decide +kernel
theorem dX11_law_53 : decode cX11_law 53 = .ok (.aload_n 2, 1) := by decide +kernel
theorem dX11_law_54 : decode cX11_law 54 = .ok (.ifnonnull 12, 3) := by decide +kernel
theorem dX11_law_57 : decode cX11_law 57 = .ok (.aload_n 0, 1) := by decide +kernel
theorem dX11_law_58 : decode cX11_law 58 = .ok (.bipush (-6), 2) := by decide +kernel
theorem dX11_law_60 : decode cX11_law 60 = .ok (.invokevirtual 85, 3) := by decide +kernel
theorem dX11_law_63 : decode cX11_law 63 = .ok (.goto 15, 3) := by decide +kernel
theorem dX11_law_66 : decode cX11_law 66 = .ok (.aload_n 0, 1) := by decide +kernel
theorem dX11_law_67 : decode cX11_law 67 = .ok (.aload_n 0, 1) := by decide +kernel
theorem dX11_law_68 : decode cX11_law 68 = .ok (.getfield 10, 3) := by decide +kernel
theorem dX11_law_71 : decode cX11_law 71 = .ok (.aload_n 2, 1) := by decide +kernel
theorem dX11_law_72 : decode cX11_law 72 = .ok (.invokevirtual 157, 3) := by decide +kernel
theorem dX11_law_75 : decode cX11_law 75 = .ok (.invokevirtual 92, 3) := by decide +kernel
theorem dX11_law_78 : decode cX11_law 78 = .ok (.ireturn, 1) := by decide +kernel
theorem dX11_fault_0 : decode cX11_fault 0 = .ok (.aload_n 0, 1) := by decide +kernel
theorem dX11_fault_1 : decode cX11_fault 1 = .ok (.getfield 28, 3) := by decide +kernel
theorem dX11_fault_4 : decode cX11_fault 4 = .ok (.ireturn, 1) := by decide +kernel
theorem dX11_force_0 : decode cX11_force 0 = .ok (.iload_n 1, 1) := by decide +kernel
theorem dX11_force_1 : decode cX11_force 1 = .ok (.iconst (-1), 1) := by decide +kernel
theorem dX11_force_2 : decode cX11_force 2 = .ok (.if_icmp .lt 14, 3) := by decide +kernel
theorem dX11_force_5 : decode cX11_force 5 = .ok (.iload_n 1, 1) := by decide +kernel
theorem dX11_force_6 : decode cX11_force 6 = .ok (.aload_n 0, 1) := by decide +kernel
theorem dX11_force_7 : decode cX11_force 7 = .ok (.getfield 10, 3) := by decide +kernel
theorem dX11_force_10 : decode cX11_force 10 = .ok (.getfield 147, 3) := by decide +kernel
theorem dX11_force_13 : decode cX11_force 13 = .ok (.if_icmp .lt 10, 3) := by decide +kernel
theorem dX11_force_16 : decode cX11_force 16 = .ok (.aload_n 0, 1) := by decide +kernel
theorem dX11_force_17 : decode cX11_force 17 = .ok (.bipush (-2), 2) := by decide +kernel
theorem dX11_force_19 : decode cX11_force 19 = .ok (.invokevirtual 85, 3) := by decide +kernel
theorem dX11_force_22 : decode cX11_force 22 = .ok (.ireturn, 1) := by decide +kernel
theorem dX11_force_23 : decode cX11_force 23 = .ok (.aload_n 0, 1) := by decide +kernel
theorem dX11_force_24 : decode cX11_force 24 = .ok (.getfield 10, 3) := by decide +kernel
theorem dX11_force_27 : decode cX11_force 27 = .ok (.getfield 161, 3) := by decide +kernel
theorem dX11_force_30 : decode cX11_force 30 = .ok (.istore_n 2, 1) := by decide +kernel
theorem dX11_force_31 : decode cX11_force 31 = .ok (.aload_n 0, 1) := by decide +kernel
theorem dX11_force_32 : decode cX11_force 32 = .ok (.getfield 10, 3) := by decide +kernel
theorem dX11_force_35 : decode cX11_force 35 = .ok (.iload_n 1, 1) := by decide +kernel
theorem dX11_force_36 : decode cX11_force 36 = .ok (.putfield 161, 3) := by decide +kernel
theorem dX11_force_39 : decode cX11_force 39 = .ok (.aload_n 0, 1) := by decide +kernel
theorem dX11_force_40 : decode cX11_force 40 = .ok (.iload_n 2, 1) := by decide +kernel
theorem dX11_force_41 : decode cX11_force 41 = .ok (.invokevirtual 92, 3) := by decide +kernel
theorem dX11_force_44 : decode cX11_force 44 = .ok (.ireturn, 1) := by decide +kernel
theorem dX11_rate_0 : decode cX11_rate 0 = .ok (.aload_n 0, 1) := by decide +kernel
theorem dX11_rate_1 : decode cX11_rate 1 = .ok (.getfield 10, 3) := by decide +kernel
theorem dX11_rate_4 : decode cX11_rate 4 = .ok (.iload_n 1, 1) := by decide +kernel
theorem dX11_rate_5 : decode cX11_rate 5 = .ok (.invokevirtual 95, 3) := by decide +kernel
theorem dX11_rate_8 : decode cX11_rate 8 = .ok (.astore_n 3, 1) := by decide +kernel
theorem dX11_rate_9 : decode cX11_rate 9 = .ok (.aload_n 3, 1) := by decide +kernel
theorem dX11_rate_10 : decode cX11_rate 10 = .ok (.ifnull 12, 3) := by decide +kernel
theorem dX11_rate_13 : decode cX11_rate 13 = .ok (.iload_n 2, 1) := by decide +kernel
theorem dX11_rate_14 : decode cX11_rate 14 = .ok (.ifCond .lt 8, 3) := by decide +kernel
theorem dX11_rate_17 : decode cX11_rate 17 = .ok (.iload_n 2, 1) := by decide +kernel
theorem dX11_rate_18 : decode cX11_rate 18 = .ok (.iconst 1, 1) := by decide +kernel
theorem dX11_rate_19 : decode cX11_rate 19 = .ok (.if_icmp .le 7, 3) := by decide +kernel
theorem dX11_rate_22 : decode cX11_rate 22 = .ok (.ldc2_w 164, 3) := by decide +kernel
theorem dX11_rate_25 : decode cX11_rate 25 = .ok (.lreturn, 1) := by decide +kernel
theorem dX11_rate_26 : decode cX11_rate 26 = .ok (.iload_n 2, 1) := by decide +kernel
theorem dX11_rate_27 : decode cX11_rate 27 = .ok (.ifCond .ne 10, 3) := by decide +kernel
theorem dX11_rate_30 : decode cX11_rate 30 = .ok (.aload_n 3, 1) := by decide +kernel
theorem dX11_rate_31 : decode cX11_rate 31 = .ok (.getfield 166, 3) := by decide +kernel
theorem dX11_rate_34 : decode cX11_rate 34 = .ok (.goto 7, 3) := by decide +kernel
theorem dX11_rate_37 : decode cX11_rate 37 = .ok (.aload_n 3, 1) := by decide +kernel
theorem dX11_rate_38 : decode cX11_rate 38 = .ok (.getfield 170, 3) := by decide +kernel
theorem dX11_rate_41 : decode cX11_rate 41 = .ok (.lreturn, 1) := by decide +kernel
theorem dX11_shows_0 : decode cX11_shows 0 = .ok (.aload_n 0, 1) := by decide +kernel
theorem dX11_shows_1 : decode cX11_shows 1 = .ok (.getfield 10, 3) := by decide +kernel
theorem dX11_shows_4 : decode cX11_shows 4 = .ok (.iload_n 1, 1) := by decide +kernel
theorem dX11_shows_5 : decode cX11_shows 5 = .ok (.invokevirtual 95, 3) := by decide +kernel
theorem dX11_shows_8 : decode cX11_shows 8 = .ok (.astore 4, 2) := by decide +kernel
theorem dX11_shows_10 : decode cX11_shows 10 = .ok (.aload 4, 2) := by decide +kernel
theorem dX11_shows_12 : decode cX11_shows 12 = .ok (.ifnull 10, 3) := by decide +kernel
theorem dX11_shows_15 : decode cX11_shows 15 = .ok (.iload_n 2, 1) := by decide +kernel
theorem dX11_shows_16 : decode cX11_shows 16 = .ok (.invokestatic 173, 3) := by decide +kernel
theorem dX11_shows_19 : decode cX11_shows 19 = .ok (.ifCond .ne 5, 3) := by decide +kernel
theorem dX11_shows_22 : decode cX11_shows 22 = .ok (.iconst (-1), 1) := by decide +kernel
theorem dX11_shows_23 : decode cX11_shows 23 = .ok (.ireturn, 1) := by decide +kernel
theorem dX11_shows_24 : decode cX11_shows 24 = .ok (.iload_n 3, 1) := by decide +kernel
theorem dX11_shows_25 : decode cX11_shows 25 = .ok (.tableswitch 58 0 2 #[27, 34, 41], 27) := by decide +kernel
theorem dX11_shows_52 : decode cX11_shows 52 = .ok (.aload 4, 2) := by decide +kernel
theorem dX11_shows_54 : decode cX11_shows 54 = .ok (.iload_n 2, 1) := by decide +kernel
theorem dX11_shows_55 : decode cX11_shows 55 = .ok (.invokevirtual 176, 3) := by decide +kernel
theorem dX11_shows_58 : decode cX11_shows 58 = .ok (.ireturn, 1) := by decide +kernel
theorem dX11_shows_59 : decode cX11_shows 59 = .ok (.aload 4, 2) := by decide +kernel
theorem dX11_shows_61 : decode cX11_shows 61 = .ok (.iload_n 2, 1) := by decide +kernel
theorem dX11_shows_62 : decode cX11_shows 62 = .ok (.invokevirtual 179, 3) := by decide +kernel
theorem dX11_shows_65 : decode cX11_shows 65 = .ok (.ireturn, 1) := by decide +kernel
theorem dX11_shows_66 : decode cX11_shows 66 = .ok (.aload_n 0, 1) := by decide +kernel
theorem dX11_shows_67 : decode cX11_shows 67 = .ok (.iload_n 1, 1) := by decide +kernel
theorem dX11_shows_68 : decode cX11_shows 68 = .ok (.aload 4, 2) := by decide +kernel
theorem dX11_shows_70 : decode cX11_shows 70 = .ok (.iload_n 2, 1) := by decide +kernel
theorem dX11_shows_71 : decode cX11_shows 71 = .ok (.invokevirtual 182, 3) := by decide +kernel
theorem dX11_shows_74 : decode cX11_shows 74 = .ok (.ifCond .eq 7, 3) := by decide +kernel
theorem dX11_shows_77 : decode cX11_shows 77 = .ok (.iconst 1, 1) := by decide +kernel
theorem dX11_shows_78 : decode cX11_shows 78 = .ok (.goto 4, 3) := by decide +kernel
theorem dX11_shows_81 : decode cX11_shows 81 = .ok (.iconst 0, 1) := by decide +kernel
theorem dX11_shows_82 : decode cX11_shows 82 = .ok (.ireturn, 1) := by decide +kernel
theorem dX11_shows_83 : decode cX11_shows 83 = .ok (.iconst (-1), 1) := by decide +kernel
theorem dX11_shows_84 : decode cX11_shows 84 = .ok (.ireturn, 1) := by decide +kernel
theorem dX11_should_0 : decode cX11_should 0 = .ok (.aload_n 0, 1) := by decide +kernel
theorem dX11_should_1 : decode cX11_should 1 = .ok (.getfield 10, 3) := by decide +kernel
theorem dX11_should_4 : decode cX11_should 4 = .ok (.iload_n 1, 1) := by decide +kernel
theorem dX11_should_5 : decode cX11_should 5 = .ok (.invokevirtual 95, 3) := by decide +kernel
theorem dX11_should_8 : decode cX11_should 8 = .ok (.astore_n 3, 1) := by decide +kernel
theorem dX11_should_9 : decode cX11_should 9 = .ok (.aload_n 3, 1) := by decide +kernel
theorem dX11_should_10 : decode cX11_should 10 = .ok (.ifnull 10, 3) := by decide +kernel
theorem dX11_should_13 : decode cX11_should 13 = .ok (.iload_n 2, 1) := by decide +kernel
theorem dX11_should_14 : decode cX11_should 14 = .ok (.invokestatic 173, 3) := by decide +kernel
theorem dX11_should_17 : decode cX11_should 17 = .ok (.ifCond .ne 6, 3) := by decide +kernel
theorem dX11_should_20 : decode cX11_should 20 = .ok (.ldc 186, 2) := by decide +kernel
theorem dX11_should_22 : decode cX11_should 22 = .ok (.ireturn, 1) := by decide +kernel
theorem dX11_should_23 : decode cX11_should 23 = .ok (.aload_n 0, 1) := by decide +kernel
theorem dX11_should_24 : decode cX11_should 24 = .ok (.getfield 50, 3) := by decide +kernel
theorem dX11_should_27 : decode cX11_should 27 = .ok (.aload_n 0, 1) := by decide +kernel
theorem dX11_should_28 : decode cX11_should 28 = .ok (.getfield 10, 3) := by decide +kernel
theorem dX11_should_31 : decode cX11_should 31 = .ok (.invokevirtual 187, 3) := by decide +kernel
theorem dX11_should_34 : decode cX11_should 34 = .ok (.iload_n 1, 1) := by decide +kernel
theorem dX11_should_35 : decode cX11_should 35 = .ok (.aload_n 3, 1) := by decide +kernel
theorem dX11_should_36 : decode cX11_should 36 = .ok (.iload_n 2, 1) := by decide +kernel
theorem dX11_should_37 : decode cX11_should 37 = .ok (.invokevirtual 191, 3) := by decide +kernel
theorem dX11_should_40 : decode cX11_should 40 = .ok (.ireturn, 1) := by decide +kernel
theorem dX11_wrong_0 : decode cX11_wrong 0 = .ok (.aload_n 0, 1) := by decide +kernel
theorem dX11_wrong_1 : decode cX11_wrong 1 = .ok (.getfield 10, 3) := by decide +kernel
theorem dX11_wrong_4 : decode cX11_wrong 4 = .ok (.iload_n 1, 1) := by decide +kernel
theorem dX11_wrong_5 : decode cX11_wrong 5 = .ok (.invokevirtual 95, 3) := by decide +kernel
theorem dX11_wrong_8 : decode cX11_wrong 8 = .ok (.astore 5, 2) := by decide +kernel
theorem dX11_wrong_10 : decode cX11_wrong 10 = .ok (.aload 5, 2) := by decide +kernel
theorem dX11_wrong_12 : decode cX11_wrong 12 = .ok (.ifnull 28, 3) := by decide +kernel
theorem dX11_wrong_15 : decode cX11_wrong 15 = .ok (.iload_n 2, 1) := by decide +kernel
theorem dX11_wrong_16 : decode cX11_wrong 16 = .ok (.invokestatic 173, 3) := by decide +kernel
theorem dX11_wrong_19 : decode cX11_wrong 19 = .ok (.ifCond .eq 21, 3) := by decide +kernel
theorem dX11_wrong_22 : decode cX11_wrong 22 = .ok (.iload_n 3, 1) := by decide +kernel
theorem dX11_wrong_23 : decode cX11_wrong 23 = .ok (.invokestatic 173, 3) := by decide +kernel
theorem dX11_wrong_26 : decode cX11_wrong 26 = .ok (.ifCond .eq 14, 3) := by decide +kernel
theorem dX11_wrong_29 : decode cX11_wrong 29 = .ok (.iload 4, 2) := by decide +kernel
theorem dX11_wrong_31 : decode cX11_wrong 31 = .ok (.ifCond .lt 9, 3) := by decide +kernel
theorem dX11_wrong_34 : decode cX11_wrong 34 = .ok (.iload 4, 2) := by decide +kernel
theorem dX11_wrong_36 : decode cX11_wrong 36 = .ok (.iconst 1, 1) := by decide +kernel
theorem dX11_wrong_37 : decode cX11_wrong 37 = .ok (.if_icmp .le 5, 3) := by decide +kernel
theorem dX11_wrong_40 : decode cX11_wrong 40 = .ok (.iconst (-1), 1) := by decide +kernel
theorem dX11_wrong_41 : decode cX11_wrong 41 = .ok (.ireturn, 1) := by decide +kernel
theorem dX11_wrong_42 : decode cX11_wrong 42 = .ok (.iload_n 3, 1) := by decide +kernel
theorem dX11_wrong_43 : decode cX11_wrong 43 = .ok (.iload_n 2, 1) := by decide +kernel
theorem dX11_wrong_44 : decode cX11_wrong 44 = .ok (.if_icmp .lt 12, 3) := by decide +kernel
theorem dX11_wrong_47 : decode cX11_wrong 47 = .ok (.iload_n 3, 1) := by decide +kernel
theorem dX11_wrong_48 : decode cX11_wrong 48 = .ok (.iload_n 2, 1) := by decide +kernel
theorem dX11_wrong_49 : decode cX11_wrong 49 = .ok (.isub, 1) := by decide +kernel
theorem dX11_wrong_50 : decode cX11_wrong 50 = .ok (.sipush 5000, 3) := by decide +kernel
theorem dX11_wrong_53 : decode cX11_wrong 53 = .ok (.if_icmp .le 5, 3) := by decide +kernel
theorem dX11_wrong_56 : decode cX11_wrong 56 = .ok (.iconst (-1), 1) := by decide +kernel
theorem dX11_wrong_57 : decode cX11_wrong 57 = .ok (.ireturn, 1) := by decide +kernel
theorem dX11_wrong_58 : decode cX11_wrong 58 = .ok (.iconst 0, 1) := by decide +kernel
theorem dX11_wrong_59 : decode cX11_wrong 59 = .ok (.istore 6, 2) := by decide +kernel
theorem dX11_wrong_61 : decode cX11_wrong 61 = .ok (.iload_n 2, 1) := by decide +kernel
theorem dX11_wrong_62 : decode cX11_wrong 62 = .ok (.istore 7, 2) := by decide +kernel
theorem dX11_wrong_64 : decode cX11_wrong 64 = .ok (.iload 7, 2) := by decide +kernel
theorem dX11_wrong_66 : decode cX11_wrong 66 = .ok (.iload_n 3, 1) := by decide +kernel
theorem dX11_wrong_67 : decode cX11_wrong 67 = .ok (.if_icmp .gt 32, 3) := by decide +kernel
theorem dX11_wrong_70 : decode cX11_wrong 70 = .ok (.aload_n 0, 1) := by decide +kernel
theorem dX11_wrong_71 : decode cX11_wrong 71 = .ok (.iload_n 1, 1) := by decide +kernel
theorem dX11_wrong_72 : decode cX11_wrong 72 = .ok (.aload 5, 2) := by decide +kernel
theorem dX11_wrong_74 : decode cX11_wrong 74 = .ok (.iload 7, 2) := by decide +kernel
theorem dX11_wrong_76 : decode cX11_wrong 76 = .ok (.invokevirtual 182, 3) := by decide +kernel
theorem dX11_wrong_79 : decode cX11_wrong 79 = .ok (.ifCond .eq 14, 3) := by decide +kernel
theorem dX11_wrong_82 : decode cX11_wrong 82 = .ok (.iload 4, 2) := by decide +kernel
theorem dX11_wrong_84 : decode cX11_wrong 84 = .ok (.ifCond .ne 6, 3) := by decide +kernel
theorem dX11_wrong_87 : decode cX11_wrong 87 = .ok (.iload 7, 2) := by decide +kernel
theorem dX11_wrong_89 : decode cX11_wrong 89 = .ok (.ireturn, 1) := by decide +kernel
theorem dX11_wrong_90 : decode cX11_wrong 90 = .ok (.iinc 6 1, 3) := by decide +kernel
theorem dX11_wrong_93 : decode cX11_wrong 93 = .ok (.iinc 7 1, 3) := by decide +kernel
theorem dX11_wrong_96 : decode cX11_wrong 96 = .ok (.goto (-32), 3) := by decide +kernel
theorem dX11_wrong_99 : decode cX11_wrong 99 = .ok (.iload 4, 2) := by decide +kernel
theorem dX11_wrong_101 : decode cX11_wrong 101 = .ok (.ifCond .ne 7, 3) := by decide +kernel
theorem dX11_wrong_104 : decode cX11_wrong 104 = .ok (.iconst (-1), 1) := by decide +kernel
theorem dX11_wrong_105 : decode cX11_wrong 105 = .ok (.goto 5, 3) := by decide +kernel
theorem dX11_wrong_108 : decode cX11_wrong 108 = .ok (.iload 6, 2) := by decide +kernel
theorem dX11_wrong_110 : decode cX11_wrong 110 = .ok (.ireturn, 1) := by decide +kernel
theorem dX11_off_0 : decode cX11_off 0 = .ok (.aload_n 0, 1) := by decide +kernel
theorem dX11_off_1 : decode cX11_off 1 = .ok (.getfield 10, 3) := by decide +kernel
theorem dX11_off_4 : decode cX11_off 4 = .ok (.iload_n 1, 1) := by decide +kernel
theorem dX11_off_5 : decode cX11_off 5 = .ok (.invokevirtual 95, 3) := by decide +kernel
theorem dX11_off_8 : decode cX11_off 8 = .ok (.astore 5, 2) := by decide +kernel
theorem dX11_off_10 : decode cX11_off 10 = .ok (.aload 5, 2) := by decide +kernel
theorem dX11_off_12 : decode cX11_off 12 = .ok (.ifnull 22, 3) := by decide +kernel
theorem dX11_off_15 : decode cX11_off 15 = .ok (.iload_n 2, 1) := by decide +kernel
theorem dX11_off_16 : decode cX11_off 16 = .ok (.iload_n 3, 1) := by decide +kernel
theorem dX11_off_17 : decode cX11_off 17 = .ok (.invokestatic 195, 3) := by decide +kernel
theorem dX11_off_20 : decode cX11_off 20 = .ok (.ifCond .eq 14, 3) := by decide +kernel
theorem dX11_off_23 : decode cX11_off 23 = .ok (.iload 4, 2) := by decide +kernel
theorem dX11_off_25 : decode cX11_off 25 = .ok (.ifCond .lt 9, 3) := by decide +kernel
theorem dX11_off_28 : decode cX11_off 28 = .ok (.iload 4, 2) := by decide +kernel
theorem dX11_off_30 : decode cX11_off 30 = .ok (.iconst 2, 1) := by decide +kernel
theorem dX11_off_31 : decode cX11_off 31 = .ok (.if_icmp .le 7, 3) := by decide +kernel
theorem dX11_off_34 : decode cX11_off 34 = .ok (.ldc2_w 164, 3) := by decide +kernel
theorem dX11_off_37 : decode cX11_off 37 = .ok (.lreturn, 1) := by decide +kernel
theorem dX11_off_38 : decode cX11_off 38 = .ok (.aload 5, 2) := by decide +kernel
theorem dX11_off_40 : decode cX11_off 40 = .ok (.getfield 166, 3) := by decide +kernel
theorem dX11_off_43 : decode cX11_off 43 = .ok (.iload_n 3, 1) := by decide +kernel
theorem dX11_off_44 : decode cX11_off 44 = .ok (.i2l, 1) := by decide +kernel
theorem dX11_off_45 : decode cX11_off 45 = .ok (.lmul, 1) := by decide +kernel
theorem dX11_off_46 : decode cX11_off 46 = .ok (.aload 5, 2) := by decide +kernel
theorem dX11_off_48 : decode cX11_off 48 = .ok (.getfield 170, 3) := by decide +kernel
theorem dX11_off_51 : decode cX11_off 51 = .ok (.iload_n 2, 1) := by decide +kernel
theorem dX11_off_52 : decode cX11_off 52 = .ok (.i2l, 1) := by decide +kernel
theorem dX11_off_53 : decode cX11_off 53 = .ok (.lmul, 1) := by decide +kernel
theorem dX11_off_54 : decode cX11_off 54 = .ok (.lsub, 1) := by decide +kernel
theorem dX11_off_55 : decode cX11_off 55 = .ok (.invokestatic 198, 3) := by decide +kernel
theorem dX11_off_58 : decode cX11_off 58 = .ok (.lstore 6, 2) := by decide +kernel
theorem dX11_off_60 : decode cX11_off 60 = .ok (.aload 5, 2) := by decide +kernel
theorem dX11_off_62 : decode cX11_off 62 = .ok (.getfield 170, 3) := by decide +kernel
theorem dX11_off_65 : decode cX11_off 65 = .ok (.iload_n 3, 1) := by decide +kernel
theorem dX11_off_66 : decode cX11_off 66 = .ok (.i2l, 1) := by decide +kernel
theorem dX11_off_67 : decode cX11_off 67 = .ok (.lmul, 1) := by decide +kernel
theorem dX11_off_68 : decode cX11_off 68 = .ok (.lstore 8, 2) := by decide +kernel
theorem dX11_off_70 : decode cX11_off 70 = .ok (.iload 4, 2) := by decide +kernel
theorem dX11_off_72 : decode cX11_off 72 = .ok (.iconst 2, 1) := by decide +kernel
theorem dX11_off_73 : decode cX11_off 73 = .ok (.if_icmp .ge 13, 3) := by decide +kernel
theorem dX11_off_76 : decode cX11_off 76 = .ok (.lload 6, 2) := by decide +kernel
theorem dX11_off_78 : decode cX11_off 78 = .ok (.lload 8, 2) := by decide +kernel
theorem dX11_off_80 : decode cX11_off 80 = .ok (.iload 4, 2) := by decide +kernel
theorem dX11_off_82 : decode cX11_off 82 = .ok (.invokestatic 204, 3) := by decide +kernel
theorem dX11_off_85 : decode cX11_off 85 = .ok (.lreturn, 1) := by decide +kernel
theorem dX11_off_86 : decode cX11_off 86 = .ok (.lload 6, 2) := by decide +kernel
theorem dX11_off_88 : decode cX11_off 88 = .ok (.lconst 0, 1) := by decide +kernel
theorem dX11_off_89 : decode cX11_off 89 = .ok (.lcmp, 1) := by decide +kernel
theorem dX11_off_90 : decode cX11_off 90 = .ok (.ifCond .ne 7, 3) := by decide +kernel
theorem dX11_off_93 : decode cX11_off 93 = .ok (.ldc2_w 164, 3) := by decide +kernel
theorem dX11_off_96 : decode cX11_off 96 = .ok (.lreturn, 1) := by decide +kernel
theorem dX11_off_97 : decode cX11_off 97 = .ok (.lload 8, 2) := by decide +kernel
theorem dX11_off_99 : decode cX11_off 99 = .ok (.lload 6, 2) := by decide +kernel
theorem dX11_off_101 : decode cX11_off 101 = .ok (.invokestatic 208, 3) := by decide +kernel
theorem dX11_off_104 : decode cX11_off 104 = .ok (.lstore 10, 2) := by decide +kernel
theorem dX11_off_106 : decode cX11_off 106 = .ok (.lload 10, 2) := by decide +kernel
theorem dX11_off_108 : decode cX11_off 108 = .ok (.ldc2_w 212, 3) := by decide +kernel
theorem dX11_off_111 : decode cX11_off 111 = .ok (.lcmp, 1) := by decide +kernel
theorem dX11_off_112 : decode cX11_off 112 = .ok (.ifCond .le 9, 3) := by decide +kernel
theorem dX11_off_115 : decode cX11_off 115 = .ok (.ldc2_w 164, 3) := by decide +kernel
theorem dX11_off_118 : decode cX11_off 118 = .ok (.goto 5, 3) := by decide +kernel
theorem dX11_off_121 : decode cX11_off 121 = .ok (.lload 10, 2) := by decide +kernel
theorem dX11_off_123 : decode cX11_off 123 = .ok (.lreturn, 1) := by decide +kernel
theorem dX11_nearest_0 : decode cX11_nearest 0 = .ok (.iload_n 1, 1) := by decide +kernel
theorem dX11_nearest_1 : decode cX11_nearest 1 = .ok (.iload_n 2, 1) := by decide +kernel
theorem dX11_nearest_2 : decode cX11_nearest 2 = .ok (.invokestatic 195, 3) := by decide +kernel
theorem dX11_nearest_5 : decode cX11_nearest 5 = .ok (.ifCond .eq 12, 3) := by decide +kernel
theorem dX11_nearest_8 : decode cX11_nearest 8 = .ok (.iload_n 3, 1) := by decide +kernel
theorem dX11_nearest_9 : decode cX11_nearest 9 = .ok (.ifCond .lt 8, 3) := by decide +kernel
theorem dX11_nearest_12 : decode cX11_nearest 12 = .ok (.iload_n 3, 1) := by decide +kernel
theorem dX11_nearest_13 : decode cX11_nearest 13 = .ok (.iconst 4, 1) := by decide +kernel
theorem dX11_nearest_14 : decode cX11_nearest 14 = .ok (.if_icmp .le 5, 3) := by decide +kernel
theorem dX11_nearest_17 : decode cX11_nearest 17 = .ok (.iconst (-1), 1) := by decide +kernel
theorem dX11_nearest_18 : decode cX11_nearest 18 = .ok (.ireturn, 1) := by decide +kernel
theorem dX11_nearest_19 : decode cX11_nearest 19 = .ok (.aload_n 0, 1) := by decide +kernel
theorem dX11_nearest_20 : decode cX11_nearest 20 = .ok (.getfield 57, 3) := by decide +kernel
theorem dX11_nearest_23 : decode cX11_nearest 23 = .ok (.aload_n 0, 1) := by decide +kernel
theorem dX11_nearest_24 : decode cX11_nearest 24 = .ok (.getfield 10, 3) := by decide +kernel
theorem dX11_nearest_27 : decode cX11_nearest 27 = .ok (.iload_n 1, 1) := by decide +kernel
theorem dX11_nearest_28 : decode cX11_nearest 28 = .ok (.iload_n 2, 1) := by decide +kernel
theorem dX11_nearest_29 : decode cX11_nearest 29 = .ok (.invokevirtual 214, 3) := by decide +kernel
theorem dX11_nearest_32 : decode cX11_nearest 32 = .ok (.ifCond .ne 5, 3) := by decide +kernel
theorem dX11_nearest_35 : decode cX11_nearest 35 = .ok (.iconst (-1), 1) := by decide +kernel
theorem dX11_nearest_36 : decode cX11_nearest 36 = .ok (.ireturn, 1) := by decide +kernel
theorem dX11_nearest_37 : decode cX11_nearest 37 = .ok (.iload_n 3, 1) := by decide +kernel
theorem dX11_nearest_38 : decode cX11_nearest 38 = .ok (.ifCond .ne 13, 3) := by decide +kernel
theorem dX11_nearest_41 : decode cX11_nearest 41 = .ok (.aload_n 0, 1) := by decide +kernel
theorem dX11_nearest_42 : decode cX11_nearest 42 = .ok (.getfield 57, 3) := by decide +kernel
theorem dX11_nearest_45 : decode cX11_nearest 45 = .ok (.getfield 218, 3) := by decide +kernel
theorem dX11_nearest_48 : decode cX11_nearest 48 = .ok (.goto 13, 3) := by decide +kernel
theorem dX11_nearest_51 : decode cX11_nearest 51 = .ok (.aload_n 0, 1) := by decide +kernel
theorem dX11_nearest_52 : decode cX11_nearest 52 = .ok (.getfield 57, 3) := by decide +kernel
theorem dX11_nearest_55 : decode cX11_nearest 55 = .ok (.iload_n 3, 1) := by decide +kernel
theorem dX11_nearest_56 : decode cX11_nearest 56 = .ok (.iconst 1, 1) := by decide +kernel
theorem dX11_nearest_57 : decode cX11_nearest 57 = .ok (.isub, 1) := by decide +kernel
theorem dX11_nearest_58 : decode cX11_nearest 58 = .ok (.invokevirtual 221, 3) := by decide +kernel
theorem dX11_nearest_61 : decode cX11_nearest 61 = .ok (.ireturn, 1) := by decide +kernel
theorem dX11_near_0 : decode cX11_near 0 = .ok (.iload_n 1, 1) := by decide +kernel
theorem dX11_near_1 : decode cX11_near 1 = .ok (.iload_n 2, 1) := by decide +kernel
theorem dX11_near_2 : decode cX11_near 2 = .ok (.invokestatic 195, 3) := by decide +kernel
theorem dX11_near_5 : decode cX11_near 5 = .ok (.ifCond .eq 12, 3) := by decide +kernel
theorem dX11_near_8 : decode cX11_near 8 = .ok (.iload_n 3, 1) := by decide +kernel
theorem dX11_near_9 : decode cX11_near 9 = .ok (.ifCond .lt 8, 3) := by decide +kernel
theorem dX11_near_12 : decode cX11_near 12 = .ok (.iload_n 3, 1) := by decide +kernel
theorem dX11_near_13 : decode cX11_near 13 = .ok (.iconst 1, 1) := by decide +kernel
theorem dX11_near_14 : decode cX11_near 14 = .ok (.if_icmp .le 7, 3) := by decide +kernel
theorem dX11_near_17 : decode cX11_near 17 = .ok (.ldc2_w 164, 3) := by decide +kernel
theorem dX11_near_20 : decode cX11_near 20 = .ok (.lreturn, 1) := by decide +kernel
theorem dX11_near_21 : decode cX11_near 21 = .ok (.aload_n 0, 1) := by decide +kernel
theorem dX11_near_22 : decode cX11_near 22 = .ok (.getfield 57, 3) := by decide +kernel
theorem dX11_near_25 : decode cX11_near 25 = .ok (.aload_n 0, 1) := by decide +kernel
theorem dX11_near_26 : decode cX11_near 26 = .ok (.getfield 10, 3) := by decide +kernel
theorem dX11_near_29 : decode cX11_near 29 = .ok (.iload_n 1, 1) := by decide +kernel
theorem dX11_near_30 : decode cX11_near 30 = .ok (.iload_n 2, 1) := by decide +kernel
theorem dX11_near_31 : decode cX11_near 31 = .ok (.invokevirtual 214, 3) := by decide +kernel
theorem dX11_near_34 : decode cX11_near 34 = .ok (.ifCond .ne 7, 3) := by decide +kernel
theorem dX11_near_37 : decode cX11_near 37 = .ok (.ldc2_w 164, 3) := by decide +kernel
theorem dX11_near_40 : decode cX11_near 40 = .ok (.lreturn, 1) := by decide +kernel
theorem dX11_near_41 : decode cX11_near 41 = .ok (.aload_n 0, 1) := by decide +kernel
theorem dX11_near_42 : decode cX11_near 42 = .ok (.getfield 57, 3) := by decide +kernel
theorem dX11_near_45 : decode cX11_near 45 = .ok (.getfield 224, 3) := by decide +kernel
theorem dX11_near_48 : decode cX11_near 48 = .ok (.aload_n 0, 1) := by decide +kernel
theorem dX11_near_49 : decode cX11_near 49 = .ok (.getfield 57, 3) := by decide +kernel
theorem dX11_near_52 : decode cX11_near 52 = .ok (.getfield 227, 3) := by decide +kernel
theorem dX11_near_55 : decode cX11_near 55 = .ok (.iload_n 2, 1) := by decide +kernel
theorem dX11_near_56 : decode cX11_near 56 = .ok (.i2l, 1) := by decide +kernel
theorem dX11_near_57 : decode cX11_near 57 = .ok (.lmul, 1) := by decide +kernel
theorem dX11_near_58 : decode cX11_near 58 = .ok (.iload_n 3, 1) := by decide +kernel
theorem dX11_near_59 : decode cX11_near 59 = .ok (.invokestatic 204, 3) := by decide +kernel
theorem dX11_near_62 : decode cX11_near 62 = .ok (.lreturn, 1) := by decide +kernel
theorem dX11_mount_0 : decode cX11_mount 0 = .ok (.iload_n 2, 1) := by decide +kernel
theorem dX11_mount_1 : decode cX11_mount 1 = .ok (.iload_n 3, 1) := by decide +kernel
theorem dX11_mount_2 : decode cX11_mount 2 = .ok (.invokestatic 195, 3) := by decide +kernel
theorem dX11_mount_5 : decode cX11_mount 5 = .ok (.ifCond .ne 9, 3) := by decide +kernel
theorem dX11_mount_8 : decode cX11_mount 8 = .ok (.aload_n 0, 1) := by decide +kernel
theorem dX11_mount_9 : decode cX11_mount 9 = .ok (.iconst (-1), 1) := by decide +kernel
theorem dX11_mount_10 : decode cX11_mount 10 = .ok (.invokevirtual 85, 3) := by decide +kernel
theorem dX11_mount_13 : decode cX11_mount 13 = .ok (.ireturn, 1) := by decide +kernel
theorem dX11_mount_14 : decode cX11_mount 14 = .ok (.aload_n 0, 1) := by decide +kernel
theorem dX11_mount_15 : decode cX11_mount 15 = .ok (.getfield 10, 3) := by decide +kernel
theorem dX11_mount_18 : decode cX11_mount 18 = .ok (.iload_n 1, 1) := by decide +kernel
theorem dX11_mount_19 : decode cX11_mount 19 = .ok (.invokevirtual 95, 3) := by decide +kernel
theorem dX11_mount_22 : decode cX11_mount 22 = .ok (.astore 4, 2) := by decide +kernel
theorem dX11_mount_24 : decode cX11_mount 24 = .ok (.aload 4, 2) := by decide +kernel
theorem dX11_mount_26 : decode cX11_mount 26 = .ok (.ifnull 19, 3) := by decide +kernel
theorem dX11_mount_29 : decode cX11_mount 29 = .ok (.aload_n 0, 1) := by decide +kernel
theorem dX11_mount_30 : decode cX11_mount 30 = .ok (.getfield 57, 3) := by decide +kernel
theorem dX11_mount_33 : decode cX11_mount 33 = .ok (.aload_n 0, 1) := by decide +kernel
theorem dX11_mount_34 : decode cX11_mount 34 = .ok (.getfield 10, 3) := by decide +kernel
theorem dX11_mount_37 : decode cX11_mount 37 = .ok (.iload_n 2, 1) := by decide +kernel
theorem dX11_mount_38 : decode cX11_mount 38 = .ok (.iload_n 3, 1) := by decide +kernel
theorem dX11_mount_39 : decode cX11_mount 39 = .ok (.invokevirtual 214, 3) := by decide +kernel
theorem dX11_mount_42 : decode cX11_mount 42 = .ok (.ifCond .ne 10, 3) := by decide +kernel
theorem dX11_mount_45 : decode cX11_mount 45 = .ok (.aload_n 0, 1) := by decide +kernel
theorem dX11_mount_46 : decode cX11_mount 46 = .ok (.bipush (-2), 2) := by decide +kernel
theorem dX11_mount_48 : decode cX11_mount 48 = .ok (.invokevirtual 85, 3) := by decide +kernel
theorem dX11_mount_51 : decode cX11_mount 51 = .ok (.ireturn, 1) := by decide +kernel
theorem dX11_mount_52 : decode cX11_mount 52 = .ok (.aload 4, 2) := by decide +kernel
theorem dX11_mount_54 : decode cX11_mount 54 = .ok (.invokevirtual 121, 3) := by decide +kernel
theorem dX11_mount_57 : decode cX11_mount 57 = .ok (.iconst 0, 1) := by decide +kernel
theorem dX11_mount_58 : decode cX11_mount 58 = .ok (.istore 5, 2) := by decide +kernel
theorem dX11_mount_60 : decode cX11_mount 60 = .ok (.iload 5, 2) := by decide +kernel
theorem dX11_mount_62 : decode cX11_mount 62 = .ok (.aload_n 0, 1) := by decide +kernel
theorem dX11_mount_63 : decode cX11_mount 63 = .ok (.getfield 57, 3) := by decide +kernel
theorem dX11_mount_66 : decode cX11_mount 66 = .ok (.getfield 218, 3) := by decide +kernel
theorem dX11_mount_69 : decode cX11_mount 69 = .ok (.if_icmp .ge 61, 3) := by decide +kernel
theorem dX11_mount_72 : decode cX11_mount 72 = .ok (.aload_n 0, 1) := by decide +kernel
theorem dX11_mount_73 : decode cX11_mount 73 = .ok (.getfield 10, 3) := by decide +kernel
theorem dX11_mount_76 : decode cX11_mount 76 = .ok (.aload_n 0, 1) := by decide +kernel
theorem dX11_mount_77 : decode cX11_mount 77 = .ok (.getfield 57, 3) := by decide +kernel
theorem dX11_mount_80 : decode cX11_mount 80 = .ok (.iconst 2, 1) := by decide +kernel
theorem dX11_mount_81 : decode cX11_mount 81 = .ok (.iload 5, 2) := by decide +kernel
theorem dX11_mount_83 : decode cX11_mount 83 = .ok (.imul, 1) := by decide +kernel
theorem dX11_mount_84 : decode cX11_mount 84 = .ok (.invokevirtual 221, 3) := by decide +kernel
theorem dX11_mount_87 : decode cX11_mount 87 = .ok (.invokevirtual 136, 3) := by decide +kernel
theorem dX11_mount_90 : decode cX11_mount 90 = .ok (.istore 6, 2) := by decide +kernel
theorem dX11_mount_92 : decode cX11_mount 92 = .ok (.aload_n 0, 1) := by decide +kernel
theorem dX11_mount_93 : decode cX11_mount 93 = .ok (.getfield 10, 3) := by decide +kernel
theorem dX11_mount_96 : decode cX11_mount 96 = .ok (.aload_n 0, 1) := by decide +kernel
theorem dX11_mount_97 : decode cX11_mount 97 = .ok (.getfield 57, 3) := by decide +kernel
theorem dX11_mount_100 : decode cX11_mount 100 = .ok (.iconst 2, 1) := by decide +kernel
theorem dX11_mount_101 : decode cX11_mount 101 = .ok (.iload 5, 2) := by decide +kernel
theorem dX11_mount_103 : decode cX11_mount 103 = .ok (.imul, 1) := by decide +kernel
theorem dX11_mount_104 : decode cX11_mount 104 = .ok (.iconst 1, 1) := by decide +kernel
theorem dX11_mount_105 : decode cX11_mount 105 = .ok (.iadd, 1) := by decide +kernel
theorem dX11_mount_106 : decode cX11_mount 106 = .ok (.invokevirtual 221, 3) := by decide +kernel
theorem dX11_mount_109 : decode cX11_mount 109 = .ok (.invokevirtual 136, 3) := by decide +kernel
theorem dX11_mount_112 : decode cX11_mount 112 = .ok (.istore 7, 2) := by decide +kernel
theorem dX11_mount_114 : decode cX11_mount 114 = .ok (.aload 4, 2) := by decide +kernel
theorem dX11_mount_116 : decode cX11_mount 116 = .ok (.iload 6, 2) := by decide +kernel
theorem dX11_mount_118 : decode cX11_mount 118 = .ok (.iload 7, 2) := by decide +kernel
theorem dX11_mount_120 : decode cX11_mount 120 = .ok (.invokevirtual 114, 3) := by decide +kernel
theorem dX11_mount_123 : decode cX11_mount 123 = .ok (.pop, 1) := by decide +kernel
theorem dX11_mount_124 : decode cX11_mount 124 = .ok (.iinc 5 1, 3) := by decide +kernel
theorem dX11_mount_127 : decode cX11_mount 127 = .ok (.goto (-67), 3) := by decide +kernel
theorem dX11_mount_130 : decode cX11_mount 130 = .ok (.aload_n 0, 1) := by decide +kernel
theorem dX11_mount_131 : decode cX11_mount 131 = .ok (.aload 4, 2) := by decide +kernel
theorem dX11_mount_133 : decode cX11_mount 133 = .ok (.getfield 118, 3) := by decide +kernel
theorem dX11_mount_136 : decode cX11_mount 136 = .ok (.invokevirtual 92, 3) := by decide +kernel
theorem dX11_mount_139 : decode cX11_mount 139 = .ok (.ireturn, 1) := by decide +kernel
theorem dX11_cam_0 : decode cX11_cam 0 = .ok (.aload_n 0, 1) := by decide +kernel
theorem dX11_cam_1 : decode cX11_cam 1 = .ok (.getfield 10, 3) := by decide +kernel
theorem dX11_cam_4 : decode cX11_cam 4 = .ok (.iload_n 1, 1) := by decide +kernel
theorem dX11_cam_5 : decode cX11_cam 5 = .ok (.invokevirtual 95, 3) := by decide +kernel
theorem dX11_cam_8 : decode cX11_cam 8 = .ok (.astore_n 3, 1) := by decide +kernel
theorem dX11_cam_9 : decode cX11_cam 9 = .ok (.aload_n 3, 1) := by decide +kernel
theorem dX11_cam_10 : decode cX11_cam 10 = .ok (.ifnull 16, 3) := by decide +kernel
theorem dX11_cam_13 : decode cX11_cam 13 = .ok (.iload_n 2, 1) := by decide +kernel
theorem dX11_cam_14 : decode cX11_cam 14 = .ok (.bipush 99, 2) := by decide +kernel
theorem dX11_cam_16 : decode cX11_cam 16 = .ok (.if_icmp .lt 10, 3) := by decide +kernel
theorem dX11_cam_19 : decode cX11_cam 19 = .ok (.iload_n 2, 1) := by decide +kernel
theorem dX11_cam_20 : decode cX11_cam 20 = .ok (.sipush 2000, 3) := by decide +kernel
theorem dX11_cam_23 : decode cX11_cam 23 = .ok (.if_icmp .le 5, 3) := by decide +kernel
theorem dX11_cam_26 : decode cX11_cam 26 = .ok (.iconst (-1), 1) := by decide +kernel
theorem dX11_cam_27 : decode cX11_cam 27 = .ok (.ireturn, 1) := by decide +kernel
theorem dX11_cam_28 : decode cX11_cam 28 = .ok (.aload_n 0, 1) := by decide +kernel
theorem dX11_cam_29 : decode cX11_cam 29 = .ok (.getfield 10, 3) := by decide +kernel
theorem dX11_cam_32 : decode cX11_cam 32 = .ok (.invokevirtual 187, 3) := by decide +kernel
theorem dX11_cam_35 : decode cX11_cam 35 = .ok (.astore 4, 2) := by decide +kernel
theorem dX11_cam_37 : decode cX11_cam 37 = .ok (.iconst 0, 1) := by decide +kernel
theorem dX11_cam_38 : decode cX11_cam 38 = .ok (.istore 5, 2) := by decide +kernel
theorem dX11_cam_40 : decode cX11_cam 40 = .ok (.iload 5, 2) := by decide +kernel
theorem dX11_cam_42 : decode cX11_cam 42 = .ok (.iload_n 2, 1) := by decide +kernel
theorem dX11_cam_43 : decode cX11_cam 43 = .ok (.if_icmp .gt 53, 3) := by decide +kernel
theorem dX11_cam_46 : decode cX11_cam 46 = .ok (.iload 5, 2) := by decide +kernel
theorem dX11_cam_48 : decode cX11_cam 48 = .ok (.aload_n 0, 1) := by decide +kernel
theorem dX11_cam_49 : decode cX11_cam 49 = .ok (.getfield 82, 3) := by decide +kernel
theorem dX11_cam_52 : decode cX11_cam 52 = .ok (.arraylength, 1) := by decide +kernel
theorem dX11_cam_53 : decode cX11_cam 53 = .ok (.if_icmp .ge 43, 3) := by decide +kernel
theorem dX11_cam_56 : decode cX11_cam 56 = .ok (.aload_n 0, 1) := by decide +kernel
theorem dX11_cam_57 : decode cX11_cam 57 = .ok (.getfield 82, 3) := by decide +kernel
theorem dX11_cam_60 : decode cX11_cam 60 = .ok (.iload 5, 2) := by decide +kernel
theorem dX11_cam_62 : decode cX11_cam 62 = .ok (.aload_n 0, 1) := by decide +kernel
theorem dX11_cam_63 : decode cX11_cam 63 = .ok (.getfield 50, 3) := by decide +kernel
theorem dX11_cam_66 : decode cX11_cam 66 = .ok (.aload 4, 2) := by decide +kernel
theorem dX11_cam_68 : decode cX11_cam 68 = .ok (.iload_n 1, 1) := by decide +kernel
theorem dX11_cam_69 : decode cX11_cam 69 = .ok (.aload_n 3, 1) := by decide +kernel
theorem dX11_cam_70 : decode cX11_cam 70 = .ok (.iload 5, 2) := by decide +kernel
theorem dX11_cam_72 : decode cX11_cam 72 = .ok (.invokevirtual 191, 3) := by decide +kernel
theorem dX11_cam_75 : decode cX11_cam 75 = .ok (.iastore, 1) := by decide +kernel
theorem dX11_cam_76 : decode cX11_cam 76 = .ok (.aload_n 0, 1) := by decide +kernel
theorem dX11_cam_77 : decode cX11_cam 77 = .ok (.getfield 82, 3) := by decide +kernel
theorem dX11_cam_80 : decode cX11_cam 80 = .ok (.iload 5, 2) := by decide +kernel
theorem dX11_cam_82 : decode cX11_cam 82 = .ok (.iaload, 1) := by decide +kernel
theorem dX11_cam_83 : decode cX11_cam 83 = .ok (.ldc 186, 2) := by decide +kernel
theorem dX11_cam_85 : decode cX11_cam 85 = .ok (.if_icmp .ne 5, 3) := by decide +kernel
theorem dX11_cam_88 : decode cX11_cam 88 = .ok (.iconst (-1), 1) := by decide +kernel
theorem dX11_cam_89 : decode cX11_cam 89 = .ok (.ireturn, 1) := by decide +kernel
theorem dX11_cam_90 : decode cX11_cam 90 = .ok (.iinc 5 1, 3) := by decide +kernel
theorem dX11_cam_93 : decode cX11_cam 93 = .ok (.goto (-53), 3) := by decide +kernel
theorem dX11_cam_96 : decode cX11_cam 96 = .ok (.iconst 1, 1) := by decide +kernel
theorem dX11_cam_97 : decode cX11_cam 97 = .ok (.istore 5, 2) := by decide +kernel
theorem dX11_cam_99 : decode cX11_cam 99 = .ok (.iload 5, 2) := by decide +kernel
theorem dX11_cam_101 : decode cX11_cam 101 = .ok (.bipush 99, 2) := by decide +kernel
theorem dX11_cam_103 : decode cX11_cam 103 = .ok (.if_icmp .gt 22, 3) := by decide +kernel
theorem dX11_cam_106 : decode cX11_cam 106 = .ok (.aload_n 0, 1) := by decide +kernel
theorem dX11_cam_107 : decode cX11_cam 107 = .ok (.iload 5, 2) := by decide +kernel
theorem dX11_cam_109 : decode cX11_cam 109 = .ok (.iload_n 2, 1) := by decide +kernel
theorem dX11_cam_110 : decode cX11_cam 110 = .ok (.invokevirtual 230, 3) := by decide +kernel
theorem dX11_cam_113 : decode cX11_cam 113 = .ok (.ifCond .eq 6, 3) := by decide +kernel
theorem dX11_cam_116 : decode cX11_cam 116 = .ok (.iload 5, 2) := by decide +kernel
theorem dX11_cam_118 : decode cX11_cam 118 = .ok (.ireturn, 1) := by decide +kernel
theorem dX11_cam_119 : decode cX11_cam 119 = .ok (.iinc 5 1, 3) := by decide +kernel
theorem dX11_cam_122 : decode cX11_cam 122 = .ok (.goto (-23), 3) := by decide +kernel
theorem dX11_cam_125 : decode cX11_cam 125 = .ok (.iconst (-1), 1) := by decide +kernel
theorem dX11_cam_126 : decode cX11_cam 126 = .ok (.ireturn, 1) := by decide +kernel
theorem dX11_sight_0 : decode cX11_sight 0 = .ok (.iload_n 2, 1) := by decide +kernel
theorem dX11_sight_1 : decode cX11_sight 1 = .ok (.invokestatic 173, 3) := by decide +kernel
theorem dX11_sight_4 : decode cX11_sight 4 = .ok (.ifCond .eq 7, 3) := by decide +kernel
theorem dX11_sight_7 : decode cX11_sight 7 = .ok (.iload_n 3, 1) := by decide +kernel
theorem dX11_sight_8 : decode cX11_sight 8 = .ok (.ifCond .ge 9, 3) := by decide +kernel
theorem dX11_sight_11 : decode cX11_sight 11 = .ok (.aload_n 0, 1) := by decide +kernel
theorem dX11_sight_12 : decode cX11_sight 12 = .ok (.iconst (-1), 1) := by decide +kernel
theorem dX11_sight_13 : decode cX11_sight 13 = .ok (.invokevirtual 85, 3) := by decide +kernel
theorem dX11_sight_16 : decode cX11_sight 16 = .ok (.ireturn, 1) := by decide +kernel
theorem dX11_sight_17 : decode cX11_sight 17 = .ok (.aload_n 0, 1) := by decide +kernel
theorem dX11_sight_18 : decode cX11_sight 18 = .ok (.getfield 10, 3) := by decide +kernel
theorem dX11_sight_21 : decode cX11_sight 21 = .ok (.iload_n 1, 1) := by decide +kernel
theorem dX11_sight_22 : decode cX11_sight 22 = .ok (.invokevirtual 95, 3) := by decide +kernel
theorem dX11_sight_25 : decode cX11_sight 25 = .ok (.astore 4, 2) := by decide +kernel
theorem dX11_sight_27 : decode cX11_sight 27 = .ok (.aload 4, 2) := by decide +kernel
theorem dX11_sight_29 : decode cX11_sight 29 = .ok (.ifnonnull 10, 3) := by decide +kernel
theorem dX11_sight_32 : decode cX11_sight 32 = .ok (.aload_n 0, 1) := by decide +kernel
theorem dX11_sight_33 : decode cX11_sight 33 = .ok (.bipush (-2), 2) := by decide +kernel
theorem dX11_sight_35 : decode cX11_sight 35 = .ok (.invokevirtual 85, 3) := by decide +kernel
theorem dX11_sight_38 : decode cX11_sight 38 = .ok (.ireturn, 1) := by decide +kernel
theorem dX11_sight_39 : decode cX11_sight 39 = .ok (.iload_n 3, 1) := by decide +kernel
theorem dX11_sight_40 : decode cX11_sight 40 = .ok (.aload 4, 2) := by decide +kernel
theorem dX11_sight_42 : decode cX11_sight 42 = .ok (.getfield 104, 3) := by decide +kernel
theorem dX11_sight_45 : decode cX11_sight 45 = .ok (.if_icmp .lt 9, 3) := by decide +kernel
theorem dX11_sight_48 : decode cX11_sight 48 = .ok (.aload_n 0, 1) := by decide +kernel
theorem dX11_sight_49 : decode cX11_sight 49 = .ok (.iconst (-1), 1) := by decide +kernel
theorem dX11_sight_50 : decode cX11_sight 50 = .ok (.invokevirtual 85, 3) := by decide +kernel
theorem dX11_sight_53 : decode cX11_sight 53 = .ok (.ireturn, 1) := by decide +kernel
theorem dX11_sight_54 : decode cX11_sight 54 = .ok (.aload_n 0, 1) := by decide +kernel
theorem dX11_sight_55 : decode cX11_sight 55 = .ok (.getfield 10, 3) := by decide +kernel
theorem dX11_sight_58 : decode cX11_sight 58 = .ok (.iload_n 1, 1) := by decide +kernel
theorem dX11_sight_59 : decode cX11_sight 59 = .ok (.iload_n 2, 1) := by decide +kernel
theorem dX11_sight_60 : decode cX11_sight 60 = .ok (.iload_n 3, 1) := by decide +kernel
theorem dX11_sight_61 : decode cX11_sight 61 = .ok (.invokevirtual 233, 3) := by decide +kernel
theorem dX11_sight_64 : decode cX11_sight 64 = .ok (.ifCond .eq 17, 3) := by decide +kernel
theorem dX11_sight_67 : decode cX11_sight 67 = .ok (.aload_n 0, 1) := by decide +kernel
theorem dX11_sight_68 : decode cX11_sight 68 = .ok (.aload_n 0, 1) := by decide +kernel
theorem dX11_sight_69 : decode cX11_sight 69 = .ok (.getfield 10, 3) := by decide +kernel
theorem dX11_sight_72 : decode cX11_sight 72 = .ok (.getfield 237, 3) := by decide +kernel
theorem dX11_sight_75 : decode cX11_sight 75 = .ok (.invokevirtual 92, 3) := by decide +kernel
theorem dX11_sight_78 : decode cX11_sight 78 = .ok (.goto 9, 3) := by decide +kernel
theorem dX11_sight_81 : decode cX11_sight 81 = .ok (.aload_n 0, 1) := by decide +kernel
theorem dX11_sight_82 : decode cX11_sight 82 = .ok (.bipush (-5), 2) := by decide +kernel
theorem dX11_sight_84 : decode cX11_sight 84 = .ok (.invokevirtual 85, 3) := by decide +kernel
theorem dX11_sight_87 : decode cX11_sight 87 = .ok (.ireturn, 1) := by decide +kernel
theorem dX11_forget_0 : decode cX11_forget 0 = .ok (.aload_n 0, 1) := by decide +kernel
theorem dX11_forget_1 : decode cX11_forget 1 = .ok (.getfield 10, 3) := by decide +kernel
theorem dX11_forget_4 : decode cX11_forget 4 = .ok (.getfield 237, 3) := by decide +kernel
theorem dX11_forget_7 : decode cX11_forget 7 = .ok (.istore_n 1, 1) := by decide +kernel
theorem dX11_forget_8 : decode cX11_forget 8 = .ok (.aload_n 0, 1) := by decide +kernel
theorem dX11_forget_9 : decode cX11_forget 9 = .ok (.getfield 10, 3) := by decide +kernel
theorem dX11_forget_12 : decode cX11_forget 12 = .ok (.iconst 0, 1) := by decide +kernel
theorem dX11_forget_13 : decode cX11_forget 13 = .ok (.putfield 237, 3) := by decide +kernel
theorem dX11_forget_16 : decode cX11_forget 16 = .ok (.iload_n 1, 1) := by decide +kernel
theorem dX11_forget_17 : decode cX11_forget 17 = .ok (.ireturn, 1) := by decide +kernel
theorem dX11_inside_0 : decode cX11_inside 0 = .ok (.aload_n 0, 1) := by decide +kernel
theorem dX11_inside_1 : decode cX11_inside 1 = .ok (.getfield 10, 3) := by decide +kernel
theorem dX11_inside_4 : decode cX11_inside 4 = .ok (.iload_n 1, 1) := by decide +kernel
theorem dX11_inside_5 : decode cX11_inside 5 = .ok (.invokevirtual 95, 3) := by decide +kernel
theorem dX11_inside_8 : decode cX11_inside 8 = .ok (.astore_n 3, 1) := by decide +kernel
theorem dX11_inside_9 : decode cX11_inside 9 = .ok (.aload_n 3, 1) := by decide +kernel
theorem dX11_inside_10 : decode cX11_inside 10 = .ok (.ifnull 13, 3) := by decide +kernel
theorem dX11_inside_13 : decode cX11_inside 13 = .ok (.iload_n 2, 1) := by decide +kernel
theorem dX11_inside_14 : decode cX11_inside 14 = .ok (.ifCond .lt 9, 3) := by decide +kernel
theorem dX11_inside_17 : decode cX11_inside 17 = .ok (.iload_n 2, 1) := by decide +kernel
theorem dX11_inside_18 : decode cX11_inside 18 = .ok (.bipush 6, 2) := by decide +kernel
theorem dX11_inside_20 : decode cX11_inside 20 = .ok (.if_icmp .le 5, 3) := by decide +kernel
theorem dX11_inside_23 : decode cX11_inside 23 = .ok (.iconst (-1), 1) := by decide +kernel
theorem dX11_inside_24 : decode cX11_inside 24 = .ok (.ireturn, 1) := by decide +kernel
theorem dX11_inside_25 : decode cX11_inside 25 = .ok (.aload_n 0, 1) := by decide +kernel
theorem dX11_inside_26 : decode cX11_inside 26 = .ok (.getfield 64, 3) := by decide +kernel
theorem dX11_inside_29 : decode cX11_inside 29 = .ok (.aload_n 0, 1) := by decide +kernel
theorem dX11_inside_30 : decode cX11_inside 30 = .ok (.getfield 10, 3) := by decide +kernel
theorem dX11_inside_33 : decode cX11_inside 33 = .ok (.iload_n 1, 1) := by decide +kernel
theorem dX11_inside_34 : decode cX11_inside 34 = .ok (.aload_n 3, 1) := by decide +kernel
theorem dX11_inside_35 : decode cX11_inside 35 = .ok (.getfield 104, 3) := by decide +kernel
theorem dX11_inside_38 : decode cX11_inside 38 = .ok (.invokevirtual 240, 3) := by decide +kernel
theorem dX11_inside_41 : decode cX11_inside 41 = .ok (.iload_n 2, 1) := by decide +kernel
theorem dX11_inside_42 : decode cX11_inside 42 = .ok (.ifCond .ne 11, 3) := by decide +kernel
theorem dX11_inside_45 : decode cX11_inside 45 = .ok (.aload_n 0, 1) := by decide +kernel
theorem dX11_inside_46 : decode cX11_inside 46 = .ok (.getfield 64, 3) := by decide +kernel
theorem dX11_inside_49 : decode cX11_inside 49 = .ok (.getfield 243, 3) := by decide +kernel
theorem dX11_inside_52 : decode cX11_inside 52 = .ok (.ireturn, 1) := by decide +kernel
theorem dX11_inside_53 : decode cX11_inside 53 = .ok (.aload_n 0, 1) := by decide +kernel
theorem dX11_inside_54 : decode cX11_inside 54 = .ok (.getfield 64, 3) := by decide +kernel
theorem dX11_inside_57 : decode cX11_inside 57 = .ok (.getfield 246, 3) := by decide +kernel
theorem dX11_inside_60 : decode cX11_inside 60 = .ok (.ifCond .ne 5, 3) := by decide +kernel
theorem dX11_inside_63 : decode cX11_inside 63 = .ok (.iconst (-1), 1) := by decide +kernel
theorem dX11_inside_64 : decode cX11_inside 64 = .ok (.ireturn, 1) := by decide +kernel
theorem dX11_inside_65 : decode cX11_inside 65 = .ok (.iload_n 2, 1) := by decide +kernel
theorem dX11_inside_66 : decode cX11_inside 66 = .ok (.iconst 1, 1) := by decide +kernel
theorem dX11_inside_67 : decode cX11_inside 67 = .ok (.if_icmp .ne 11, 3) := by decide +kernel
theorem dX11_inside_70 : decode cX11_inside 70 = .ok (.aload_n 0, 1) := by decide +kernel
theorem dX11_inside_71 : decode cX11_inside 71 = .ok (.getfield 64, 3) := by decide +kernel
theorem dX11_inside_74 : decode cX11_inside 74 = .ok (.getfield 246, 3) := by decide +kernel
theorem dX11_inside_77 : decode cX11_inside 77 = .ok (.ireturn, 1) := by decide +kernel
theorem dX11_inside_78 : decode cX11_inside 78 = .ok (.iload_n 2, 1) := by decide +kernel
theorem dX11_inside_79 : decode cX11_inside 79 = .ok (.iconst 2, 1) := by decide +kernel
theorem dX11_inside_80 : decode cX11_inside 80 = .ok (.if_icmp .ne 13, 3) := by decide +kernel
theorem dX11_inside_83 : decode cX11_inside 83 = .ok (.aload_n 0, 1) := by decide +kernel
theorem dX11_inside_84 : decode cX11_inside 84 = .ok (.getfield 64, 3) := by decide +kernel
theorem dX11_inside_87 : decode cX11_inside 87 = .ok (.getfield 247, 3) := by decide +kernel
theorem dX11_inside_90 : decode cX11_inside 90 = .ok (.goto 13, 3) := by decide +kernel
theorem dX11_inside_93 : decode cX11_inside 93 = .ok (.aload_n 0, 1) := by decide +kernel
theorem dX11_inside_94 : decode cX11_inside 94 = .ok (.getfield 64, 3) := by decide +kernel
theorem dX11_inside_97 : decode cX11_inside 97 = .ok (.iload_n 2, 1) := by decide +kernel
theorem dX11_inside_98 : decode cX11_inside 98 = .ok (.iconst 3, 1) := by decide +kernel
theorem dX11_inside_99 : decode cX11_inside 99 = .ok (.isub, 1) := by decide +kernel
theorem dX11_inside_100 : decode cX11_inside 100 = .ok (.invokevirtual 250, 3) := by decide +kernel
theorem dX11_inside_103 : decode cX11_inside 103 = .ok (.ireturn, 1) := by decide +kernel
theorem dX11_gone_0 : decode cX11_gone 0 = .ok (.aload_n 0, 1) := by decide +kernel
theorem dX11_gone_1 : decode cX11_gone 1 = .ok (.getfield 10, 3) := by decide +kernel
theorem dX11_gone_4 : decode cX11_gone 4 = .ok (.iload_n 1, 1) := by decide +kernel
theorem dX11_gone_5 : decode cX11_gone 5 = .ok (.invokevirtual 95, 3) := by decide +kernel
theorem dX11_gone_8 : decode cX11_gone 8 = .ok (.astore_n 3, 1) := by decide +kernel
theorem dX11_gone_9 : decode cX11_gone 9 = .ok (.aload_n 3, 1) := by decide +kernel
theorem dX11_gone_10 : decode cX11_gone 10 = .ok (.ifnull 12, 3) := by decide +kernel
theorem dX11_gone_13 : decode cX11_gone 13 = .ok (.iload_n 2, 1) := by decide +kernel
theorem dX11_gone_14 : decode cX11_gone 14 = .ok (.ifCond .lt 8, 3) := by decide +kernel
theorem dX11_gone_17 : decode cX11_gone 17 = .ok (.iload_n 2, 1) := by decide +kernel
theorem dX11_gone_18 : decode cX11_gone 18 = .ok (.iconst 1, 1) := by decide +kernel
theorem dX11_gone_19 : decode cX11_gone 19 = .ok (.if_icmp .le 5, 3) := by decide +kernel
theorem dX11_gone_22 : decode cX11_gone 22 = .ok (.iconst (-1), 1) := by decide +kernel
theorem dX11_gone_23 : decode cX11_gone 23 = .ok (.ireturn, 1) := by decide +kernel
theorem dX11_gone_24 : decode cX11_gone 24 = .ok (.iconst 0, 1) := by decide +kernel
theorem dX11_gone_25 : decode cX11_gone 25 = .ok (.istore 4, 2) := by decide +kernel
theorem dX11_gone_27 : decode cX11_gone 27 = .ok (.iconst 2, 1) := by decide +kernel
theorem dX11_gone_28 : decode cX11_gone 28 = .ok (.istore 5, 2) := by decide +kernel
theorem dX11_gone_30 : decode cX11_gone 30 = .ok (.iload 5, 2) := by decide +kernel
theorem dX11_gone_32 : decode cX11_gone 32 = .ok (.sipush 400, 3) := by decide +kernel
theorem dX11_gone_35 : decode cX11_gone 35 = .ok (.if_icmp .gt 31, 3) := by decide +kernel
theorem dX11_gone_38 : decode cX11_gone 38 = .ok (.aload_n 0, 1) := by decide +kernel
theorem dX11_gone_39 : decode cX11_gone 39 = .ok (.iload_n 1, 1) := by decide +kernel
theorem dX11_gone_40 : decode cX11_gone 40 = .ok (.aload_n 3, 1) := by decide +kernel
theorem dX11_gone_41 : decode cX11_gone 41 = .ok (.iload 5, 2) := by decide +kernel
theorem dX11_gone_43 : decode cX11_gone 43 = .ok (.invokevirtual 251, 3) := by decide +kernel
theorem dX11_gone_46 : decode cX11_gone 46 = .ok (.ifCond .eq 14, 3) := by decide +kernel
theorem dX11_gone_49 : decode cX11_gone 49 = .ok (.iload_n 2, 1) := by decide +kernel
theorem dX11_gone_50 : decode cX11_gone 50 = .ok (.iconst 1, 1) := by decide +kernel
theorem dX11_gone_51 : decode cX11_gone 51 = .ok (.if_icmp .ne 6, 3) := by decide +kernel
theorem dX11_gone_54 : decode cX11_gone 54 = .ok (.iload 5, 2) := by decide +kernel
theorem dX11_gone_56 : decode cX11_gone 56 = .ok (.ireturn, 1) := by decide +kernel
theorem dX11_gone_57 : decode cX11_gone 57 = .ok (.iinc 4 1, 3) := by decide +kernel
theorem dX11_gone_60 : decode cX11_gone 60 = .ok (.iinc 5 1, 3) := by decide +kernel
theorem dX11_gone_63 : decode cX11_gone 63 = .ok (.goto (-33), 3) := by decide +kernel
theorem dX11_gone_66 : decode cX11_gone 66 = .ok (.iload_n 2, 1) := by decide +kernel
theorem dX11_gone_67 : decode cX11_gone 67 = .ok (.ifCond .ne 8, 3) := by decide +kernel
theorem dX11_gone_70 : decode cX11_gone 70 = .ok (.iload 4, 2) := by decide +kernel
theorem dX11_gone_72 : decode cX11_gone 72 = .ok (.goto 4, 3) := by decide +kernel
theorem dX11_gone_75 : decode cX11_gone 75 = .ok (.iconst (-1), 1) := by decide +kernel
theorem dX11_gone_76 : decode cX11_gone 76 = .ok (.ireturn, 1) := by decide +kernel
theorem dX11_together_0 : decode cX11_together 0 = .ok (.aload_n 0, 1) := by decide +kernel
theorem dX11_together_1 : decode cX11_together 1 = .ok (.getfield 10, 3) := by decide +kernel
theorem dX11_together_4 : decode cX11_together 4 = .ok (.iload_n 1, 1) := by decide +kernel
theorem dX11_together_5 : decode cX11_together 5 = .ok (.invokevirtual 95, 3) := by decide +kernel
theorem dX11_together_8 : decode cX11_together 8 = .ok (.astore 6, 2) := by decide +kernel
theorem dX11_together_10 : decode cX11_together 10 = .ok (.aload_n 0, 1) := by decide +kernel
theorem dX11_together_11 : decode cX11_together 11 = .ok (.getfield 10, 3) := by decide +kernel
theorem dX11_together_14 : decode cX11_together 14 = .ok (.iload_n 3, 1) := by decide +kernel
theorem dX11_together_15 : decode cX11_together 15 = .ok (.invokevirtual 95, 3) := by decide +kernel
theorem dX11_together_18 : decode cX11_together 18 = .ok (.astore 7, 2) := by decide +kernel
theorem dX11_together_20 : decode cX11_together 20 = .ok (.aload 6, 2) := by decide +kernel
theorem dX11_together_22 : decode cX11_together 22 = .ok (.ifnull 16, 3) := by decide +kernel
theorem dX11_together_25 : decode cX11_together 25 = .ok (.aload 7, 2) := by decide +kernel
theorem dX11_together_27 : decode cX11_together 27 = .ok (.ifnull 11, 3) := by decide +kernel
theorem dX11_together_30 : decode cX11_together 30 = .ok (.iload 5, 2) := by decide +kernel
theorem dX11_together_32 : decode cX11_together 32 = .ok (.invokestatic 173, 3) := by decide +kernel
theorem dX11_together_35 : decode cX11_together 35 = .ok (.ifCond .ne 5, 3) := by decide +kernel
theorem dX11_together_38 : decode cX11_together 38 = .ok (.iconst (-1), 1) := by decide +kernel
theorem dX11_together_39 : decode cX11_together 39 = .ok (.ireturn, 1) := by decide +kernel
theorem dX11_together_40 : decode cX11_together 40 = .ok (.iload 5, 2) := by decide +kernel
theorem dX11_together_42 : decode cX11_together 42 = .ok (.sipush 5000, 3) := by decide +kernel
theorem dX11_together_45 : decode cX11_together 45 = .ok (.iadd, 1) := by decide +kernel
theorem dX11_together_46 : decode cX11_together 46 = .ok (.ldc 139, 2) := by decide +kernel
theorem dX11_together_48 : decode cX11_together 48 = .ok (.invokestatic 254, 3) := by decide +kernel
theorem dX11_together_51 : decode cX11_together 51 = .ok (.istore 8, 2) := by decide +kernel
theorem dX11_together_53 : decode cX11_together 53 = .ok (.iload 5, 2) := by decide +kernel
theorem dX11_together_55 : decode cX11_together 55 = .ok (.istore 9, 2) := by decide +kernel
theorem dX11_together_57 : decode cX11_together 57 = .ok (.iload 9, 2) := by decide +kernel
theorem dX11_together_59 : decode cX11_together 59 = .ok (.iload 8, 2) := by decide +kernel
theorem dX11_together_61 : decode cX11_together 61 = .ok (.if_icmp .gt 35, 3) := by decide +kernel
theorem dX11_together_64 : decode cX11_together 64 = .ok (.aload 6, 2) := by decide +kernel
theorem dX11_together_66 : decode cX11_together 66 = .ok (.iload 9, 2) := by decide +kernel
theorem dX11_together_68 : decode cX11_together 68 = .ok (.invokevirtual 176, 3) := by decide +kernel
theorem dX11_together_71 : decode cX11_together 71 = .ok (.iload_n 2, 1) := by decide +kernel
theorem dX11_together_72 : decode cX11_together 72 = .ok (.if_icmp .ne 18, 3) := by decide +kernel
theorem dX11_together_75 : decode cX11_together 75 = .ok (.aload 7, 2) := by decide +kernel
theorem dX11_together_77 : decode cX11_together 77 = .ok (.iload 9, 2) := by decide +kernel
theorem dX11_together_79 : decode cX11_together 79 = .ok (.invokevirtual 176, 3) := by decide +kernel
theorem dX11_together_82 : decode cX11_together 82 = .ok (.iload 4, 2) := by decide +kernel
theorem dX11_together_84 : decode cX11_together 84 = .ok (.if_icmp .ne 6, 3) := by decide +kernel
theorem dX11_together_87 : decode cX11_together 87 = .ok (.iload 9, 2) := by decide +kernel
theorem dX11_together_89 : decode cX11_together 89 = .ok (.ireturn, 1) := by decide +kernel
theorem dX11_together_90 : decode cX11_together 90 = .ok (.iinc 9 1, 3) := by decide +kernel
theorem dX11_together_93 : decode cX11_together 93 = .ok (.goto (-36), 3) := by decide +kernel
theorem dX11_together_96 : decode cX11_together 96 = .ok (.iconst (-1), 1) := by decide +kernel
theorem dX11_together_97 : decode cX11_together 97 = .ok (.ireturn, 1) := by decide +kernel
theorem dX11_knob_0 : decode cX11_knob 0 = .ok (.aload_n 0, 1) := by decide +kernel
theorem dX11_knob_1 : decode cX11_knob 1 = .ok (.getfield 10, 3) := by decide +kernel
theorem dX11_knob_4 : decode cX11_knob 4 = .ok (.getfield 258, 3) := by decide +kernel
theorem dX11_knob_7 : decode cX11_knob 7 = .ok (.iconst 4, 1) := by decide +kernel
theorem dX11_knob_8 : decode cX11_knob 8 = .ok (.if_icmp .lt 10, 3) := by decide +kernel
theorem dX11_knob_11 : decode cX11_knob 11 = .ok (.aload_n 0, 1) := by decide +kernel
theorem dX11_knob_12 : decode cX11_knob 12 = .ok (.bipush (-5), 2) := by decide +kernel
theorem dX11_knob_14 : decode cX11_knob 14 = .ok (.invokevirtual 85, 3) := by decide +kernel
theorem dX11_knob_17 : decode cX11_knob 17 = .ok (.ireturn, 1) := by decide +kernel
theorem dX11_knob_18 : decode cX11_knob 18 = .ok (.aload_n 0, 1) := by decide +kernel
theorem dX11_knob_19 : decode cX11_knob 19 = .ok (.getfield 10, 3) := by decide +kernel
theorem dX11_knob_22 : decode cX11_knob 22 = .ok (.dup, 1) := by decide +kernel
theorem dX11_knob_23 : decode cX11_knob 23 = .ok (.getfield 258, 3) := by decide +kernel
theorem dX11_knob_26 : decode cX11_knob 26 = .ok (.iconst 1, 1) := by decide +kernel
theorem dX11_knob_27 : decode cX11_knob 27 = .ok (.iadd, 1) := by decide +kernel
theorem dX11_knob_28 : decode cX11_knob 28 = .ok (.putfield 258, 3) := by decide +kernel
theorem dX11_knob_31 : decode cX11_knob 31 = .ok (.aload_n 0, 1) := by decide +kernel
theorem dX11_knob_32 : decode cX11_knob 32 = .ok (.aload_n 0, 1) := by decide +kernel
theorem dX11_knob_33 : decode cX11_knob 33 = .ok (.getfield 10, 3) := by decide +kernel
theorem dX11_knob_36 : decode cX11_knob 36 = .ok (.getfield 258, 3) := by decide +kernel
theorem dX11_knob_39 : decode cX11_knob 39 = .ok (.iconst 1, 1) := by decide +kernel
theorem dX11_knob_40 : decode cX11_knob 40 = .ok (.isub, 1) := by decide +kernel
theorem dX11_knob_41 : decode cX11_knob 41 = .ok (.invokevirtual 92, 3) := by decide +kernel
theorem dX11_knob_44 : decode cX11_knob 44 = .ok (.ireturn, 1) := by decide +kernel
theorem dX11_push_0 : decode cX11_push 0 = .ok (.iload_n 3, 1) := by decide +kernel
theorem dX11_push_1 : decode cX11_push 1 = .ok (.ifCond .lt 9, 3) := by decide +kernel
theorem dX11_push_4 : decode cX11_push 4 = .ok (.iload_n 3, 1) := by decide +kernel
theorem dX11_push_5 : decode cX11_push 5 = .ok (.bipush 9, 2) := by decide +kernel
theorem dX11_push_7 : decode cX11_push 7 = .ok (.if_icmp .le 9, 3) := by decide +kernel
theorem dX11_push_10 : decode cX11_push 10 = .ok (.aload_n 0, 1) := by decide +kernel
theorem dX11_push_11 : decode cX11_push 11 = .ok (.iconst (-1), 1) := by decide +kernel
theorem dX11_push_12 : decode cX11_push 12 = .ok (.invokevirtual 85, 3) := by decide +kernel
theorem dX11_push_15 : decode cX11_push 15 = .ok (.ireturn, 1) := by decide +kernel
theorem dX11_push_16 : decode cX11_push 16 = .ok (.iload_n 1, 1) := by decide +kernel
theorem dX11_push_17 : decode cX11_push 17 = .ok (.ifCond .lt 25, 3) := by decide +kernel
theorem dX11_push_20 : decode cX11_push 20 = .ok (.iload_n 1, 1) := by decide +kernel
theorem dX11_push_21 : decode cX11_push 21 = .ok (.aload_n 0, 1) := by decide +kernel
theorem dX11_push_22 : decode cX11_push 22 = .ok (.getfield 10, 3) := by decide +kernel
theorem dX11_push_25 : decode cX11_push 25 = .ok (.getfield 258, 3) := by decide +kernel
theorem dX11_push_28 : decode cX11_push 28 = .ok (.if_icmp .ge 14, 3) := by decide +kernel
theorem dX11_push_31 : decode cX11_push 31 = .ok (.aload_n 0, 1) := by decide +kernel
theorem dX11_push_32 : decode cX11_push 32 = .ok (.getfield 10, 3) := by decide +kernel
theorem dX11_push_35 : decode cX11_push 35 = .ok (.iload_n 2, 1) := by decide +kernel
theorem dX11_push_36 : decode cX11_push 36 = .ok (.invokevirtual 95, 3) := by decide +kernel
theorem dX11_push_39 : decode cX11_push 39 = .ok (.ifnonnull 10, 3) := by decide +kernel
theorem dX11_push_42 : decode cX11_push 42 = .ok (.aload_n 0, 1) := by decide +kernel
theorem dX11_push_43 : decode cX11_push 43 = .ok (.bipush (-2), 2) := by decide +kernel
theorem dX11_push_45 : decode cX11_push 45 = .ok (.invokevirtual 85, 3) := by decide +kernel
theorem dX11_push_48 : decode cX11_push 48 = .ok (.ireturn, 1) := by decide +kernel
theorem dX11_push_49 : decode cX11_push 49 = .ok (.aload_n 0, 1) := by decide +kernel
theorem dX11_push_50 : decode cX11_push 50 = .ok (.getfield 10, 3) := by decide +kernel
theorem dX11_push_53 : decode cX11_push 53 = .ok (.iload_n 1, 1) := by decide +kernel
theorem dX11_push_54 : decode cX11_push 54 = .ok (.iload_n 2, 1) := by decide +kernel
theorem dX11_push_55 : decode cX11_push 55 = .ok (.invokevirtual 261, 3) := by decide +kernel
theorem dX11_push_58 : decode cX11_push 58 = .ok (.istore 4, 2) := by decide +kernel
theorem dX11_push_60 : decode cX11_push 60 = .ok (.aload_n 0, 1) := by decide +kernel
theorem dX11_push_61 : decode cX11_push 61 = .ok (.getfield 10, 3) := by decide +kernel
theorem dX11_push_64 : decode cX11_push 64 = .ok (.iload_n 1, 1) := by decide +kernel
theorem dX11_push_65 : decode cX11_push 65 = .ok (.iload_n 2, 1) := by decide +kernel
theorem dX11_push_66 : decode cX11_push 66 = .ok (.iload_n 3, 1) := by decide +kernel
theorem dX11_push_67 : decode cX11_push 67 = .ok (.invokevirtual 264, 3) := by decide +kernel
theorem dX11_push_70 : decode cX11_push 70 = .ok (.aload_n 0, 1) := by decide +kernel
theorem dX11_push_71 : decode cX11_push 71 = .ok (.iload 4, 2) := by decide +kernel
theorem dX11_push_73 : decode cX11_push 73 = .ok (.invokevirtual 92, 3) := by decide +kernel
theorem dX11_push_76 : decode cX11_push 76 = .ok (.ireturn, 1) := by decide +kernel
theorem dX11_set_0 : decode cX11_set 0 = .ok (.aload_n 0, 1) := by decide +kernel
theorem dX11_set_1 : decode cX11_set 1 = .ok (.getfield 10, 3) := by decide +kernel
theorem dX11_set_4 : decode cX11_set 4 = .ok (.iload_n 1, 1) := by decide +kernel
theorem dX11_set_5 : decode cX11_set 5 = .ok (.invokevirtual 95, 3) := by decide +kernel
theorem dX11_set_8 : decode cX11_set 8 = .ok (.astore 7, 2) := by decide +kernel
theorem dX11_set_10 : decode cX11_set 10 = .ok (.aload_n 0, 1) := by decide +kernel
theorem dX11_set_11 : decode cX11_set 11 = .ok (.getfield 10, 3) := by decide +kernel
theorem dX11_set_14 : decode cX11_set 14 = .ok (.iload_n 3, 1) := by decide +kernel
theorem dX11_set_15 : decode cX11_set 15 = .ok (.invokevirtual 95, 3) := by decide +kernel
theorem dX11_set_18 : decode cX11_set 18 = .ok (.astore 8, 2) := by decide +kernel
theorem dX11_set_20 : decode cX11_set 20 = .ok (.aload 7, 2) := by decide +kernel
theorem dX11_set_22 : decode cX11_set 22 = .ok (.ifnull 21, 3) := by decide +kernel
theorem dX11_set_25 : decode cX11_set 25 = .ok (.aload 8, 2) := by decide +kernel
theorem dX11_set_27 : decode cX11_set 27 = .ok (.ifnull 16, 3) := by decide +kernel
theorem dX11_set_30 : decode cX11_set 30 = .ok (.iload_n 1, 1) := by decide +kernel
theorem dX11_set_31 : decode cX11_set 31 = .ok (.iload_n 3, 1) := by decide +kernel
theorem dX11_set_32 : decode cX11_set 32 = .ok (.if_icmp .eq 11, 3) := by decide +kernel
theorem dX11_set_35 : decode cX11_set 35 = .ok (.iload 5, 2) := by decide +kernel
theorem dX11_set_37 : decode cX11_set 37 = .ok (.invokestatic 173, 3) := by decide +kernel
theorem dX11_set_40 : decode cX11_set 40 = .ok (.ifCond .ne 5, 3) := by decide +kernel
theorem dX11_set_43 : decode cX11_set 43 = .ok (.iconst (-1), 1) := by decide +kernel
theorem dX11_set_44 : decode cX11_set 44 = .ok (.ireturn, 1) := by decide +kernel
theorem dX11_set_45 : decode cX11_set 45 = .ok (.iload_n 2, 1) := by decide +kernel
theorem dX11_set_46 : decode cX11_set 46 = .ok (.ifCond .lt 27, 3) := by decide +kernel
theorem dX11_set_49 : decode cX11_set 49 = .ok (.iload_n 2, 1) := by decide +kernel
theorem dX11_set_50 : decode cX11_set 50 = .ok (.aload 7, 2) := by decide +kernel
theorem dX11_set_52 : decode cX11_set 52 = .ok (.getfield 104, 3) := by decide +kernel
theorem dX11_set_55 : decode cX11_set 55 = .ok (.if_icmp .ge 18, 3) := by decide +kernel
theorem dX11_set_58 : decode cX11_set 58 = .ok (.iload 4, 2) := by decide +kernel
theorem dX11_set_60 : decode cX11_set 60 = .ok (.ifCond .lt 13, 3) := by decide +kernel
theorem dX11_set_63 : decode cX11_set 63 = .ok (.iload 4, 2) := by decide +kernel
theorem dX11_set_65 : decode cX11_set 65 = .ok (.aload 8, 2) := by decide +kernel
theorem dX11_set_67 : decode cX11_set 67 = .ok (.getfield 104, 3) := by decide +kernel
theorem dX11_set_70 : decode cX11_set 70 = .ok (.if_icmp .lt 5, 3) := by decide +kernel
theorem dX11_set_73 : decode cX11_set 73 = .ok (.iconst (-1), 1) := by decide +kernel
theorem dX11_set_74 : decode cX11_set 74 = .ok (.ireturn, 1) := by decide +kernel
theorem dX11_set_75 : decode cX11_set 75 = .ok (.iload 6, 2) := by decide +kernel
theorem dX11_set_77 : decode cX11_set 77 = .ok (.ifCond .lt 15, 3) := by decide +kernel
theorem dX11_set_80 : decode cX11_set 80 = .ok (.iload 6, 2) := by decide +kernel
theorem dX11_set_82 : decode cX11_set 82 = .ok (.aload_n 0, 1) := by decide +kernel
theorem dX11_set_83 : decode cX11_set 83 = .ok (.getfield 10, 3) := by decide +kernel
theorem dX11_set_86 : decode cX11_set 86 = .ok (.getfield 258, 3) := by decide +kernel
theorem dX11_set_89 : decode cX11_set 89 = .ok (.if_icmp .le 5, 3) := by decide +kernel
theorem dX11_set_92 : decode cX11_set 92 = .ok (.iconst (-1), 1) := by decide +kernel
theorem dX11_set_93 : decode cX11_set 93 = .ok (.ireturn, 1) := by decide +kernel
theorem dX11_set_94 : decode cX11_set 94 = .ok (.aload_n 0, 1) := by decide +kernel
theorem dX11_set_95 : decode cX11_set 95 = .ok (.getfield 71, 3) := by decide +kernel
theorem dX11_set_98 : decode cX11_set 98 = .ok (.aload 7, 2) := by decide +kernel
theorem dX11_set_100 : decode cX11_set 100 = .ok (.getfield 104, 3) := by decide +kernel
theorem dX11_set_103 : decode cX11_set 103 = .ok (.aload 8, 2) := by decide +kernel
theorem dX11_set_105 : decode cX11_set 105 = .ok (.getfield 104, 3) := by decide +kernel
theorem dX11_set_108 : decode cX11_set 108 = .ok (.invokevirtual 268, 3) := by decide +kernel
theorem dX11_set_111 : decode cX11_set 111 = .ok (.iconst 0, 1) := by decide +kernel
theorem dX11_set_112 : decode cX11_set 112 = .ok (.istore 9, 2) := by decide +kernel
theorem dX11_set_114 : decode cX11_set 114 = .ok (.iload 9, 2) := by decide +kernel
theorem dX11_set_116 : decode cX11_set 116 = .ok (.aload_n 0, 1) := by decide +kernel
theorem dX11_set_117 : decode cX11_set 117 = .ok (.getfield 10, 3) := by decide +kernel
theorem dX11_set_120 : decode cX11_set 120 = .ok (.getfield 258, 3) := by decide +kernel
theorem dX11_set_123 : decode cX11_set 123 = .ok (.if_icmp .ge 36, 3) := by decide +kernel
theorem dX11_set_126 : decode cX11_set 126 = .ok (.aload_n 0, 1) := by decide +kernel
theorem dX11_set_127 : decode cX11_set 127 = .ok (.getfield 71, 3) := by decide +kernel
theorem dX11_set_130 : decode cX11_set 130 = .ok (.aload_n 0, 1) := by decide +kernel
theorem dX11_set_131 : decode cX11_set 131 = .ok (.getfield 10, 3) := by decide +kernel
theorem dX11_set_134 : decode cX11_set 134 = .ok (.iload 9, 2) := by decide +kernel
theorem dX11_set_136 : decode cX11_set 136 = .ok (.iload_n 1, 1) := by decide +kernel
theorem dX11_set_137 : decode cX11_set 137 = .ok (.invokevirtual 261, 3) := by decide +kernel
theorem dX11_set_140 : decode cX11_set 140 = .ok (.aload_n 0, 1) := by decide +kernel
theorem dX11_set_141 : decode cX11_set 141 = .ok (.getfield 10, 3) := by decide +kernel
theorem dX11_set_144 : decode cX11_set 144 = .ok (.iload 9, 2) := by decide +kernel
theorem dX11_set_146 : decode cX11_set 146 = .ok (.iload_n 3, 1) := by decide +kernel
theorem dX11_set_147 : decode cX11_set 147 = .ok (.invokevirtual 261, 3) := by decide +kernel
theorem dX11_set_150 : decode cX11_set 150 = .ok (.invokevirtual 272, 3) := by decide +kernel
theorem dX11_set_153 : decode cX11_set 153 = .ok (.iinc 9 1, 3) := by decide +kernel
theorem dX11_set_156 : decode cX11_set 156 = .ok (.goto (-42), 3) := by decide +kernel
theorem dX11_set_159 : decode cX11_set 159 = .ok (.aload_n 0, 1) := by decide +kernel
theorem dX11_set_160 : decode cX11_set 160 = .ok (.getfield 71, 3) := by decide +kernel
theorem dX11_set_163 : decode cX11_set 163 = .ok (.iload_n 2, 1) := by decide +kernel
theorem dX11_set_164 : decode cX11_set 164 = .ok (.aload 7, 2) := by decide +kernel
theorem dX11_set_166 : decode cX11_set 166 = .ok (.iload 5, 2) := by decide +kernel
theorem dX11_set_168 : decode cX11_set 168 = .ok (.invokevirtual 176, 3) := by decide +kernel
theorem dX11_set_171 : decode cX11_set 171 = .ok (.isub, 1) := by decide +kernel
theorem dX11_set_172 : decode cX11_set 172 = .ok (.iload 4, 2) := by decide +kernel
theorem dX11_set_174 : decode cX11_set 174 = .ok (.aload 8, 2) := by decide +kernel
theorem dX11_set_176 : decode cX11_set 176 = .ok (.iload 5, 2) := by decide +kernel
theorem dX11_set_178 : decode cX11_set 178 = .ok (.invokevirtual 176, 3) := by decide +kernel
theorem dX11_set_181 : decode cX11_set 181 = .ok (.isub, 1) := by decide +kernel
theorem dX11_set_182 : decode cX11_set 182 = .ok (.invokevirtual 275, 3) := by decide +kernel
theorem dX11_set_185 : decode cX11_set 185 = .ok (.ifCond .ne 5, 3) := by decide +kernel
theorem dX11_set_188 : decode cX11_set 188 = .ok (.iconst (-1), 1) := by decide +kernel
theorem dX11_set_189 : decode cX11_set 189 = .ok (.ireturn, 1) := by decide +kernel
theorem dX11_set_190 : decode cX11_set 190 = .ok (.iload 6, 2) := by decide +kernel
theorem dX11_set_192 : decode cX11_set 192 = .ok (.ifCond .ne 13, 3) := by decide +kernel
theorem dX11_set_195 : decode cX11_set 195 = .ok (.aload_n 0, 1) := by decide +kernel
theorem dX11_set_196 : decode cX11_set 196 = .ok (.getfield 71, 3) := by decide +kernel
theorem dX11_set_199 : decode cX11_set 199 = .ok (.getfield 278, 3) := by decide +kernel
theorem dX11_set_202 : decode cX11_set 202 = .ok (.goto 14, 3) := by decide +kernel
theorem dX11_set_205 : decode cX11_set 205 = .ok (.aload_n 0, 1) := by decide +kernel
theorem dX11_set_206 : decode cX11_set 206 = .ok (.getfield 71, 3) := by decide +kernel
theorem dX11_set_209 : decode cX11_set 209 = .ok (.iload 6, 2) := by decide +kernel
theorem dX11_set_211 : decode cX11_set 211 = .ok (.iconst 1, 1) := by decide +kernel
theorem dX11_set_212 : decode cX11_set 212 = .ok (.isub, 1) := by decide +kernel
theorem dX11_set_213 : decode cX11_set 213 = .ok (.invokevirtual 281, 3) := by decide +kernel
theorem dX11_set_216 : decode cX11_set 216 = .ok (.ireturn, 1) := by decide +kernel
theorem dX11_worn_0 : decode cX11_worn 0 = .ok (.iload_n 1, 1) := by decide +kernel
theorem dX11_worn_1 : decode cX11_worn 1 = .ok (.iconst (-1), 1) := by decide +kernel
theorem dX11_worn_2 : decode cX11_worn 2 = .ok (.if_icmp .eq 9, 3) := by decide +kernel
theorem dX11_worn_5 : decode cX11_worn 5 = .ok (.aload_n 0, 1) := by decide +kernel
theorem dX11_worn_6 : decode cX11_worn 6 = .ok (.iload_n 1, 1) := by decide +kernel
theorem dX11_worn_7 : decode cX11_worn 7 = .ok (.invokevirtual 284, 3) := by decide +kernel
theorem dX11_worn_10 : decode cX11_worn 10 = .ok (.ireturn, 1) := by decide +kernel
theorem dX11_worn_11 : decode cX11_worn 11 = .ok (.iconst (-1), 1) := by decide +kernel
theorem dX11_worn_12 : decode cX11_worn 12 = .ok (.istore_n 2, 1) := by decide +kernel
theorem dX11_worn_13 : decode cX11_worn 13 = .ok (.iconst 0, 1) := by decide +kernel
theorem dX11_worn_14 : decode cX11_worn 14 = .ok (.istore_n 3, 1) := by decide +kernel
theorem dX11_worn_15 : decode cX11_worn 15 = .ok (.iload_n 3, 1) := by decide +kernel
theorem dX11_worn_16 : decode cX11_worn 16 = .ok (.aload_n 0, 1) := by decide +kernel
theorem dX11_worn_17 : decode cX11_worn 17 = .ok (.getfield 10, 3) := by decide +kernel
theorem dX11_worn_20 : decode cX11_worn 20 = .ok (.getfield 287, 3) := by decide +kernel
theorem dX11_worn_23 : decode cX11_worn 23 = .ok (.if_icmp .ge 36, 3) := by decide +kernel
theorem dX11_worn_26 : decode cX11_worn 26 = .ok (.aload_n 0, 1) := by decide +kernel
theorem dX11_worn_27 : decode cX11_worn 27 = .ok (.iload_n 3, 1) := by decide +kernel
theorem dX11_worn_28 : decode cX11_worn 28 = .ok (.invokevirtual 284, 3) := by decide +kernel
theorem dX11_worn_31 : decode cX11_worn 31 = .ok (.istore 4, 2) := by decide +kernel
theorem dX11_worn_33 : decode cX11_worn 33 = .ok (.iload 4, 2) := by decide +kernel
theorem dX11_worn_35 : decode cX11_worn 35 = .ok (.iconst (-1), 1) := by decide +kernel
theorem dX11_worn_36 : decode cX11_worn 36 = .ok (.if_icmp .eq 17, 3) := by decide +kernel
theorem dX11_worn_39 : decode cX11_worn 39 = .ok (.iload_n 2, 1) := by decide +kernel
theorem dX11_worn_40 : decode cX11_worn 40 = .ok (.iconst (-1), 1) := by decide +kernel
theorem dX11_worn_41 : decode cX11_worn 41 = .ok (.if_icmp .eq 9, 3) := by decide +kernel
theorem dX11_worn_44 : decode cX11_worn 44 = .ok (.iload 4, 2) := by decide +kernel
theorem dX11_worn_46 : decode cX11_worn 46 = .ok (.iload_n 2, 1) := by decide +kernel
theorem dX11_worn_47 : decode cX11_worn 47 = .ok (.if_icmp .ge 6, 3) := by decide +kernel
theorem dX11_worn_50 : decode cX11_worn 50 = .ok (.iload 4, 2) := by decide +kernel
theorem dX11_worn_52 : decode cX11_worn 52 = .ok (.istore_n 2, 1) := by decide +kernel
theorem dX11_worn_53 : decode cX11_worn 53 = .ok (.iinc 3 1, 3) := by decide +kernel
theorem dX11_worn_56 : decode cX11_worn 56 = .ok (.goto (-41), 3) := by decide +kernel
theorem dX11_worn_59 : decode cX11_worn 59 = .ok (.iload_n 2, 1) := by decide +kernel
theorem dX11_worn_60 : decode cX11_worn 60 = .ok (.ireturn, 1) := by decide +kernel
theorem dX11_shared_0 : decode cX11_shared 0 = .ok (.iconst 0, 1) := by decide +kernel
theorem dX11_shared_1 : decode cX11_shared 1 = .ok (.istore_n 1, 1) := by decide +kernel
theorem dX11_shared_2 : decode cX11_shared 2 = .ok (.iconst 0, 1) := by decide +kernel
theorem dX11_shared_3 : decode cX11_shared 3 = .ok (.istore_n 2, 1) := by decide +kernel
theorem dX11_shared_4 : decode cX11_shared 4 = .ok (.iload_n 2, 1) := by decide +kernel
theorem dX11_shared_5 : decode cX11_shared 5 = .ok (.aload_n 0, 1) := by decide +kernel
theorem dX11_shared_6 : decode cX11_shared 6 = .ok (.getfield 10, 3) := by decide +kernel
theorem dX11_shared_9 : decode cX11_shared 9 = .ok (.getfield 287, 3) := by decide +kernel
theorem dX11_shared_12 : decode cX11_shared 12 = .ok (.if_icmp .ge 38, 3) := by decide +kernel
theorem dX11_shared_15 : decode cX11_shared 15 = .ok (.aload_n 0, 1) := by decide +kernel
theorem dX11_shared_16 : decode cX11_shared 16 = .ok (.getfield 10, 3) := by decide +kernel
theorem dX11_shared_19 : decode cX11_shared 19 = .ok (.iload_n 2, 1) := by decide +kernel
theorem dX11_shared_20 : decode cX11_shared 20 = .ok (.invokevirtual 95, 3) := by decide +kernel
theorem dX11_shared_23 : decode cX11_shared 23 = .ok (.astore_n 3, 1) := by decide +kernel
theorem dX11_shared_24 : decode cX11_shared 24 = .ok (.aload_n 3, 1) := by decide +kernel
theorem dX11_shared_25 : decode cX11_shared 25 = .ok (.ifnull 19, 3) := by decide +kernel
theorem dX11_shared_28 : decode cX11_shared 28 = .ok (.iload_n 1, 1) := by decide +kernel
theorem dX11_shared_29 : decode cX11_shared 29 = .ok (.iconst 2, 1) := by decide +kernel
theorem dX11_shared_30 : decode cX11_shared 30 = .ok (.aload_n 3, 1) := by decide +kernel
theorem dX11_shared_31 : decode cX11_shared 31 = .ok (.getfield 118, 3) := by decide +kernel
theorem dX11_shared_34 : decode cX11_shared 34 = .ok (.aload_n 0, 1) := by decide +kernel
theorem dX11_shared_35 : decode cX11_shared 35 = .ok (.iload_n 2, 1) := by decide +kernel
theorem dX11_shared_36 : decode cX11_shared 36 = .ok (.aload_n 3, 1) := by decide +kernel
theorem dX11_shared_37 : decode cX11_shared 37 = .ok (.invokevirtual 290, 3) := by decide +kernel
theorem dX11_shared_40 : decode cX11_shared 40 = .ok (.isub, 1) := by decide +kernel
theorem dX11_shared_41 : decode cX11_shared 41 = .ok (.imul, 1) := by decide +kernel
theorem dX11_shared_42 : decode cX11_shared 42 = .ok (.iadd, 1) := by decide +kernel
theorem dX11_shared_43 : decode cX11_shared 43 = .ok (.istore_n 1, 1) := by decide +kernel
theorem dX11_shared_44 : decode cX11_shared 44 = .ok (.iinc 2 1, 3) := by decide +kernel
theorem dX11_shared_47 : decode cX11_shared 47 = .ok (.goto (-43), 3) := by decide +kernel
theorem dX11_shared_50 : decode cX11_shared 50 = .ok (.iload_n 1, 1) := by decide +kernel
theorem dX11_shared_51 : decode cX11_shared 51 = .ok (.ireturn, 1) := by decide +kernel
theorem dX11_storm_0 : decode cX11_storm 0 = .ok (.iload_n 1, 1) := by decide +kernel
theorem dX11_storm_1 : decode cX11_storm 1 = .ok (.ifCond .lt 16, 3) := by decide +kernel
theorem dX11_storm_4 : decode cX11_storm 4 = .ok (.iload_n 1, 1) := by decide +kernel
theorem dX11_storm_5 : decode cX11_storm 5 = .ok (.ldc 139, 2) := by decide +kernel
theorem dX11_storm_7 : decode cX11_storm 7 = .ok (.if_icmp .gt 10, 3) := by decide +kernel
theorem dX11_storm_10 : decode cX11_storm 10 = .ok (.iload_n 2, 1) := by decide +kernel
theorem dX11_storm_11 : decode cX11_storm 11 = .ok (.invokestatic 173, 3) := by decide +kernel
theorem dX11_storm_14 : decode cX11_storm 14 = .ok (.ifCond .ne 9, 3) := by decide +kernel
theorem dX11_storm_17 : decode cX11_storm 17 = .ok (.aload_n 0, 1) := by decide +kernel
theorem dX11_storm_18 : decode cX11_storm 18 = .ok (.iconst (-1), 1) := by decide +kernel
theorem dX11_storm_19 : decode cX11_storm 19 = .ok (.invokevirtual 85, 3) := by decide +kernel
theorem dX11_storm_22 : decode cX11_storm 22 = .ok (.ireturn, 1) := by decide +kernel
theorem dX11_storm_23 : decode cX11_storm 23 = .ok (.iload_n 3, 1) := by decide +kernel
theorem dX11_storm_24 : decode cX11_storm 24 = .ok (.iconst 1, 1) := by decide +kernel
theorem dX11_storm_25 : decode cX11_storm 25 = .ok (.if_icmp .lt 17, 3) := by decide +kernel
theorem dX11_storm_28 : decode cX11_storm 28 = .ok (.iload_n 3, 1) := by decide +kernel
theorem dX11_storm_29 : decode cX11_storm 29 = .ok (.bipush 100, 2) := by decide +kernel
theorem dX11_storm_31 : decode cX11_storm 31 = .ok (.if_icmp .gt 11, 3) := by decide +kernel
theorem dX11_storm_34 : decode cX11_storm 34 = .ok (.iload_n 2, 1) := by decide +kernel
theorem dX11_storm_35 : decode cX11_storm 35 = .ok (.iload_n 3, 1) := by decide +kernel
theorem dX11_storm_36 : decode cX11_storm 36 = .ok (.iadd, 1) := by decide +kernel
theorem dX11_storm_37 : decode cX11_storm 37 = .ok (.ldc 139, 2) := by decide +kernel
theorem dX11_storm_39 : decode cX11_storm 39 = .ok (.if_icmp .le 9, 3) := by decide +kernel
theorem dX11_storm_42 : decode cX11_storm 42 = .ok (.aload_n 0, 1) := by decide +kernel
theorem dX11_storm_43 : decode cX11_storm 43 = .ok (.iconst (-1), 1) := by decide +kernel
theorem dX11_storm_44 : decode cX11_storm 44 = .ok (.invokevirtual 85, 3) := by decide +kernel
theorem dX11_storm_47 : decode cX11_storm 47 = .ok (.ireturn, 1) := by decide +kernel
theorem dX11_storm_48 : decode cX11_storm 48 = .ok (.aload_n 0, 1) := by decide +kernel
theorem dX11_storm_49 : decode cX11_storm 49 = .ok (.aload_n 0, 1) := by decide +kernel
theorem dX11_storm_50 : decode cX11_storm 50 = .ok (.getfield 78, 3) := by decide +kernel
theorem dX11_storm_53 : decode cX11_storm 53 = .ok (.aload_n 0, 1) := by decide +kernel
theorem dX11_storm_54 : decode cX11_storm 54 = .ok (.getfield 10, 3) := by decide +kernel
theorem dX11_storm_57 : decode cX11_storm 57 = .ok (.iload_n 1, 1) := by decide +kernel
theorem dX11_storm_58 : decode cX11_storm 58 = .ok (.iload_n 2, 1) := by decide +kernel
theorem dX11_storm_59 : decode cX11_storm 59 = .ok (.iload_n 3, 1) := by decide +kernel
theorem dX11_storm_60 : decode cX11_storm 60 = .ok (.invokevirtual 294, 3) := by decide +kernel
theorem dX11_storm_63 : decode cX11_storm 63 = .ok (.invokevirtual 92, 3) := by decide +kernel
theorem dX11_storm_66 : decode cX11_storm 66 = .ok (.ireturn, 1) := by decide +kernel
theorem dX11_stormed_0 : decode cX11_stormed 0 = .ok (.iload_n 2, 1) := by decide +kernel
theorem dX11_stormed_1 : decode cX11_stormed 1 = .ok (.lookupswitch 45 #[(0, 27), (1, 36)], 27) := by decide +kernel
theorem dX11_stormed_28 : decode cX11_stormed 28 = .ok (.aload_n 0, 1) := by decide +kernel
theorem dX11_stormed_29 : decode cX11_stormed 29 = .ok (.getfield 78, 3) := by decide +kernel
theorem dX11_stormed_32 : decode cX11_stormed 32 = .ok (.iload_n 1, 1) := by decide +kernel
theorem dX11_stormed_33 : decode cX11_stormed 33 = .ok (.invokevirtual 298, 3) := by decide +kernel
theorem dX11_stormed_36 : decode cX11_stormed 36 = .ok (.ireturn, 1) := by decide +kernel
theorem dX11_stormed_37 : decode cX11_stormed 37 = .ok (.aload_n 0, 1) := by decide +kernel
theorem dX11_stormed_38 : decode cX11_stormed 38 = .ok (.getfield 78, 3) := by decide +kernel
theorem dX11_stormed_41 : decode cX11_stormed 41 = .ok (.iload_n 1, 1) := by decide +kernel
theorem dX11_stormed_42 : decode cX11_stormed 42 = .ok (.invokevirtual 301, 3) := by decide +kernel
theorem dX11_stormed_45 : decode cX11_stormed 45 = .ok (.ireturn, 1) := by decide +kernel
theorem dX11_stormed_46 : decode cX11_stormed 46 = .ok (.iconst (-1), 1) := by decide +kernel
theorem dX11_stormed_47 : decode cX11_stormed 47 = .ok (.ireturn, 1) := by decide +kernel
theorem dX11_image_0 : decode cX11_image 0 = .ok (.aload_n 0, 1) := by decide +kernel
theorem dX11_image_1 : decode cX11_image 1 = .ok (.iload_n 1, 1) := by decide +kernel
theorem dX11_image_2 : decode cX11_image 2 = .ok (.invokevirtual 304, 3) := by decide +kernel
theorem dX11_image_5 : decode cX11_image 5 = .ok (.astore_n 2, 1) := by decide +kernel
theorem dX11_image_6 : decode cX11_image 6 = .ok (.aload_n 2, 1) := by decide +kernel
theorem dX11_image_7 : decode cX11_image 7 = .ok (.ifnonnull 9, 3) := by decide +kernel
theorem dX11_image_10 : decode cX11_image 10 = .ok (.aload_n 0, 1) := by decide +kernel
theorem dX11_image_11 : decode cX11_image 11 = .ok (.iconst (-1), 1) := by decide +kernel
theorem dX11_image_12 : decode cX11_image 12 = .ok (.invokevirtual 85, 3) := by decide +kernel
theorem dX11_image_15 : decode cX11_image 15 = .ok (.ireturn, 1) := by decide +kernel
theorem dX11_image_16 : decode cX11_image 16 = .ok (.aload_n 2, 1) := by decide +kernel
theorem dX11_image_17 : decode cX11_image 17 = .ok (.aload_n 0, 1) := by decide +kernel
theorem dX11_image_18 : decode cX11_image 18 = .ok (.getfield 10, 3) := by decide +kernel
theorem dX11_image_21 : decode cX11_image 21 = .ok (.invokevirtual 308, 3) := by decide +kernel
theorem dX11_image_24 : decode cX11_image 24 = .ok (.aload_n 2, 1) := by decide +kernel
theorem dX11_image_25 : decode cX11_image 25 = .ok (.iconst 1, 1) := by decide +kernel
theorem dX11_image_26 : decode cX11_image 26 = .ok (.putfield 312, 3) := by decide +kernel
theorem dX11_image_29 : decode cX11_image 29 = .ok (.aload_n 0, 1) := by decide +kernel
theorem dX11_image_30 : decode cX11_image 30 = .ok (.iconst 0, 1) := by decide +kernel
theorem dX11_image_31 : decode cX11_image 31 = .ok (.invokevirtual 92, 3) := by decide +kernel
theorem dX11_image_34 : decode cX11_image 34 = .ok (.ireturn, 1) := by decide +kernel
theorem dX11_back_0 : decode cX11_back 0 = .ok (.aload_n 0, 1) := by decide +kernel
theorem dX11_back_1 : decode cX11_back 1 = .ok (.iload_n 1, 1) := by decide +kernel
theorem dX11_back_2 : decode cX11_back 2 = .ok (.invokevirtual 304, 3) := by decide +kernel
theorem dX11_back_5 : decode cX11_back 5 = .ok (.astore_n 2, 1) := by decide +kernel
theorem dX11_back_6 : decode cX11_back 6 = .ok (.aload_n 2, 1) := by decide +kernel
theorem dX11_back_7 : decode cX11_back 7 = .ok (.ifnonnull 9, 3) := by decide +kernel
theorem dX11_back_10 : decode cX11_back 10 = .ok (.aload_n 0, 1) := by decide +kernel
theorem dX11_back_11 : decode cX11_back 11 = .ok (.iconst (-1), 1) := by decide +kernel
theorem dX11_back_12 : decode cX11_back 12 = .ok (.invokevirtual 85, 3) := by decide +kernel
theorem dX11_back_15 : decode cX11_back 15 = .ok (.ireturn, 1) := by decide +kernel
theorem dX11_back_16 : decode cX11_back 16 = .ok (.aload_n 2, 1) := by decide +kernel
theorem dX11_back_17 : decode cX11_back 17 = .ok (.getfield 312, 3) := by decide +kernel
theorem dX11_back_20 : decode cX11_back 20 = .ok (.ifCond .ne 10, 3) := by decide +kernel
theorem dX11_back_23 : decode cX11_back 23 = .ok (.aload_n 0, 1) := by decide +kernel
theorem dX11_back_24 : decode cX11_back 24 = .ok (.bipush (-2), 2) := by decide +kernel
theorem dX11_back_26 : decode cX11_back 26 = .ok (.invokevirtual 85, 3) := by decide +kernel
theorem dX11_back_29 : decode cX11_back 29 = .ok (.ireturn, 1) := by decide +kernel
theorem dX11_back_30 : decode cX11_back 30 = .ok (.aload_n 0, 1) := by decide +kernel
theorem dX11_back_31 : decode cX11_back 31 = .ok (.getfield 10, 3) := by decide +kernel
theorem dX11_back_34 : decode cX11_back 34 = .ok (.aload_n 2, 1) := by decide +kernel
theorem dX11_back_35 : decode cX11_back 35 = .ok (.invokevirtual 308, 3) := by decide +kernel
theorem dX11_back_38 : decode cX11_back 38 = .ok (.aload_n 0, 1) := by decide +kernel
theorem dX11_back_39 : decode cX11_back 39 = .ok (.iconst 0, 1) := by decide +kernel
theorem dX11_back_40 : decode cX11_back 40 = .ok (.invokevirtual 92, 3) := by decide +kernel
theorem dX11_back_43 : decode cX11_back 43 = .ok (.ireturn, 1) := by decide +kernel
theorem dX11_count_0 : decode cX11_count 0 = .ok (.iload_n 1, 1) := by decide +kernel
theorem dX11_count_1 : decode cX11_count 1 = .ok (.tableswitch 134 0 11 #[63, 71, 79, 87, 95, 103, 108, 108, 108, 108, 118, 126], 63) := by decide +kernel
theorem dX11_count_64 : decode cX11_count 64 = .ok (.aload_n 0, 1) := by decide +kernel
theorem dX11_count_65 : decode cX11_count 65 = .ok (.getfield 10, 3) := by decide +kernel
theorem dX11_count_68 : decode cX11_count 68 = .ok (.getfield 287, 3) := by decide +kernel
theorem dX11_count_71 : decode cX11_count 71 = .ok (.ireturn, 1) := by decide +kernel
theorem dX11_count_72 : decode cX11_count 72 = .ok (.aload_n 0, 1) := by decide +kernel
theorem dX11_count_73 : decode cX11_count 73 = .ok (.getfield 10, 3) := by decide +kernel
theorem dX11_count_76 : decode cX11_count 76 = .ok (.getfield 133, 3) := by decide +kernel
theorem dX11_count_79 : decode cX11_count 79 = .ok (.ireturn, 1) := by decide +kernel
theorem dX11_count_80 : decode cX11_count 80 = .ok (.aload_n 0, 1) := by decide +kernel
theorem dX11_count_81 : decode cX11_count 81 = .ok (.getfield 10, 3) := by decide +kernel
theorem dX11_count_84 : decode cX11_count 84 = .ok (.getfield 147, 3) := by decide +kernel
theorem dX11_count_87 : decode cX11_count 87 = .ok (.ireturn, 1) := by decide +kernel
theorem dX11_count_88 : decode cX11_count 88 = .ok (.aload_n 0, 1) := by decide +kernel
theorem dX11_count_89 : decode cX11_count 89 = .ok (.getfield 10, 3) := by decide +kernel
theorem dX11_count_92 : decode cX11_count 92 = .ok (.getfield 237, 3) := by decide +kernel
theorem dX11_count_95 : decode cX11_count 95 = .ok (.ireturn, 1) := by decide +kernel
theorem dX11_count_96 : decode cX11_count 96 = .ok (.aload_n 0, 1) := by decide +kernel
theorem dX11_count_97 : decode cX11_count 97 = .ok (.getfield 10, 3) := by decide +kernel
theorem dX11_count_100 : decode cX11_count 100 = .ok (.getfield 258, 3) := by decide +kernel
theorem dX11_count_103 : decode cX11_count 103 = .ok (.ireturn, 1) := by decide +kernel
theorem dX11_count_104 : decode cX11_count 104 = .ok (.aload_n 0, 1) := by decide +kernel
theorem dX11_count_105 : decode cX11_count 105 = .ok (.getfield 24, 3) := by decide +kernel
theorem dX11_count_108 : decode cX11_count 108 = .ok (.ireturn, 1) := by decide +kernel
theorem dX11_count_109 : decode cX11_count 109 = .ok (.aload_n 0, 1) := by decide +kernel
theorem dX11_count_110 : decode cX11_count 110 = .ok (.getfield 34, 3) := by decide +kernel
theorem dX11_count_113 : decode cX11_count 113 = .ok (.iload_n 1, 1) := by decide +kernel
theorem dX11_count_114 : decode cX11_count 114 = .ok (.bipush 6, 2) := by decide +kernel
theorem dX11_count_116 : decode cX11_count 116 = .ok (.isub, 1) := by decide +kernel
theorem dX11_count_117 : decode cX11_count 117 = .ok (.iaload, 1) := by decide +kernel
theorem dX11_count_118 : decode cX11_count 118 = .ok (.ireturn, 1) := by decide +kernel
theorem dX11_count_119 : decode cX11_count 119 = .ok (.aload_n 0, 1) := by decide +kernel
theorem dX11_count_120 : decode cX11_count 120 = .ok (.getfield 10, 3) := by decide +kernel
theorem dX11_count_123 : decode cX11_count 123 = .ok (.getfield 161, 3) := by decide +kernel
theorem dX11_count_126 : decode cX11_count 126 = .ok (.ireturn, 1) := by decide +kernel
theorem dX11_count_127 : decode cX11_count 127 = .ok (.aload_n 0, 1) := by decide +kernel
theorem dX11_count_128 : decode cX11_count 128 = .ok (.getfield 10, 3) := by decide +kernel
theorem dX11_count_131 : decode cX11_count 131 = .ok (.getfield 140, 3) := by decide +kernel
theorem dX11_count_134 : decode cX11_count 134 = .ok (.ireturn, 1) := by decide +kernel
theorem dX11_count_135 : decode cX11_count 135 = .ok (.iconst (-1), 1) := by decide +kernel
theorem dX11_count_136 : decode cX11_count 136 = .ok (.ireturn, 1) := by decide +kernel
theorem dX11_status_0 : decode cX11_status 0 = .ok (.aload_n 0, 1) := by decide +kernel
theorem dX11_status_1 : decode cX11_status 1 = .ok (.getfield 37, 3) := by decide +kernel
theorem dX11_status_4 : decode cX11_status 4 = .ok (.ireturn, 1) := by decide +kernel
theorem dX11_refuse_0 : decode cX11_refuse 0 = .ok (.aload_n 0, 1) := by decide +kernel
theorem dX11_refuse_1 : decode cX11_refuse 1 = .ok (.iload_n 1, 1) := by decide +kernel
theorem dX11_refuse_2 : decode cX11_refuse 2 = .ok (.putfield 37, 3) := by decide +kernel
theorem dX11_refuse_5 : decode cX11_refuse 5 = .ok (.iload_n 1, 1) := by decide +kernel
theorem dX11_refuse_6 : decode cX11_refuse 6 = .ok (.tableswitch 73 (-5) (-1) #[60, 73, 73, 47, 34], 34) := by decide +kernel
theorem dX11_refuse_40 : decode cX11_refuse 40 = .ok (.aload_n 0, 1) := by decide +kernel
theorem dX11_refuse_41 : decode cX11_refuse 41 = .ok (.getfield 34, 3) := by decide +kernel
theorem dX11_refuse_44 : decode cX11_refuse 44 = .ok (.iconst 0, 1) := by decide +kernel
theorem dX11_refuse_45 : decode cX11_refuse 45 = .ok (.dup2, 1) := by decide +kernel
theorem dX11_refuse_46 : decode cX11_refuse 46 = .ok (.iaload, 1) := by decide +kernel
theorem dX11_refuse_47 : decode cX11_refuse 47 = .ok (.iconst 1, 1) := by decide +kernel
theorem dX11_refuse_48 : decode cX11_refuse 48 = .ok (.iadd, 1) := by decide +kernel
theorem dX11_refuse_49 : decode cX11_refuse 49 = .ok (.iastore, 1) := by decide +kernel
theorem dX11_refuse_50 : decode cX11_refuse 50 = .ok (.goto 39, 3) := by decide +kernel
theorem dX11_refuse_53 : decode cX11_refuse 53 = .ok (.aload_n 0, 1) := by decide +kernel
theorem dX11_refuse_54 : decode cX11_refuse 54 = .ok (.getfield 34, 3) := by decide +kernel
theorem dX11_refuse_57 : decode cX11_refuse 57 = .ok (.iconst 1, 1) := by decide +kernel
theorem dX11_refuse_58 : decode cX11_refuse 58 = .ok (.dup2, 1) := by decide +kernel
theorem dX11_refuse_59 : decode cX11_refuse 59 = .ok (.iaload, 1) := by decide +kernel
theorem dX11_refuse_60 : decode cX11_refuse 60 = .ok (.iconst 1, 1) := by decide +kernel
theorem dX11_refuse_61 : decode cX11_refuse 61 = .ok (.iadd, 1) := by decide +kernel
theorem dX11_refuse_62 : decode cX11_refuse 62 = .ok (.iastore, 1) := by decide +kernel
theorem dX11_refuse_63 : decode cX11_refuse 63 = .ok (.goto 26, 3) := by decide +kernel
theorem dX11_refuse_66 : decode cX11_refuse 66 = .ok (.aload_n 0, 1) := by decide +kernel
theorem dX11_refuse_67 : decode cX11_refuse 67 = .ok (.getfield 34, 3) := by decide +kernel
theorem dX11_refuse_70 : decode cX11_refuse 70 = .ok (.iconst 2, 1) := by decide +kernel
theorem dX11_refuse_71 : decode cX11_refuse 71 = .ok (.dup2, 1) := by decide +kernel
theorem dX11_refuse_72 : decode cX11_refuse 72 = .ok (.iaload, 1) := by decide +kernel
theorem dX11_refuse_73 : decode cX11_refuse 73 = .ok (.iconst 1, 1) := by decide +kernel
theorem dX11_refuse_74 : decode cX11_refuse 74 = .ok (.iadd, 1) := by decide +kernel
theorem dX11_refuse_75 : decode cX11_refuse 75 = .ok (.iastore, 1) := by decide +kernel
theorem dX11_refuse_76 : decode cX11_refuse 76 = .ok (.goto 13, 3) := by decide +kernel
theorem dX11_refuse_79 : decode cX11_refuse 79 = .ok (.aload_n 0, 1) := by decide +kernel
theorem dX11_refuse_80 : decode cX11_refuse 80 = .ok (.getfield 34, 3) := by decide +kernel
theorem dX11_refuse_83 : decode cX11_refuse 83 = .ok (.iconst 3, 1) := by decide +kernel
theorem dX11_refuse_84 : decode cX11_refuse 84 = .ok (.dup2, 1) := by decide +kernel
theorem dX11_refuse_85 : decode cX11_refuse 85 = .ok (.iaload, 1) := by decide +kernel
theorem dX11_refuse_86 : decode cX11_refuse 86 = .ok (.iconst 1, 1) := by decide +kernel
theorem dX11_refuse_87 : decode cX11_refuse 87 = .ok (.iadd, 1) := by decide +kernel
theorem dX11_refuse_88 : decode cX11_refuse 88 = .ok (.iastore, 1) := by decide +kernel
theorem dX11_refuse_89 : decode cX11_refuse 89 = .ok (.iload_n 1, 1) := by decide +kernel
theorem dX11_refuse_90 : decode cX11_refuse 90 = .ok (.ireturn, 1) := by decide +kernel
theorem dX11_accept_0 : decode cX11_accept 0 = .ok (.aload_n 0, 1) := by decide +kernel
theorem dX11_accept_1 : decode cX11_accept 1 = .ok (.iconst 0, 1) := by decide +kernel
theorem dX11_accept_2 : decode cX11_accept 2 = .ok (.putfield 37, 3) := by decide +kernel
theorem dX11_accept_5 : decode cX11_accept 5 = .ok (.iload_n 1, 1) := by decide +kernel
theorem dX11_accept_6 : decode cX11_accept 6 = .ok (.ireturn, 1) := by decide +kernel
theorem dX11_imageAt_0 : decode cX11_imageAt 0 = .ok (.iload_n 1, 1) := by decide +kernel
theorem dX11_imageAt_1 : decode cX11_imageAt 1 = .ok (.ifCond .lt 21, 3) := by decide +kernel
theorem dX11_imageAt_4 : decode cX11_imageAt 4 = .ok (.iload_n 1, 1) := by decide +kernel
theorem dX11_imageAt_5 : decode cX11_imageAt 5 = .ok (.aload_n 0, 1) := by decide +kernel
theorem dX11_imageAt_6 : decode cX11_imageAt 6 = .ok (.getfield 16, 3) := by decide +kernel
theorem dX11_imageAt_9 : decode cX11_imageAt 9 = .ok (.arraylength, 1) := by decide +kernel
theorem dX11_imageAt_10 : decode cX11_imageAt 10 = .ok (.if_icmp .ge 12, 3) := by decide +kernel
theorem dX11_imageAt_13 : decode cX11_imageAt 13 = .ok (.aload_n 0, 1) := by decide +kernel
theorem dX11_imageAt_14 : decode cX11_imageAt 14 = .ok (.getfield 16, 3) := by decide +kernel
theorem dX11_imageAt_17 : decode cX11_imageAt 17 = .ok (.iload_n 1, 1) := by decide +kernel
theorem dX11_imageAt_18 : decode cX11_imageAt 18 = .ok (.aaload, 1) := by decide +kernel
theorem dX11_imageAt_19 : decode cX11_imageAt 19 = .ok (.goto 4, 3) := by decide +kernel
theorem dX11_imageAt_22 : decode cX11_imageAt 22 = .ok (.aconst_null, 1) := by decide +kernel
theorem dX11_imageAt_23 : decode cX11_imageAt 23 = .ok (.areturn, 1) := by decide +kernel
theorem dX11_feedNumber_0 : decode cX11_feedNumber 0 = .ok (.bipush 24, 2) := by decide +kernel
theorem dX11_feedNumber_2 : decode cX11_feedNumber 2 = .ok (.istore_n 2, 1) := by decide +kernel
theorem dX11_feedNumber_3 : decode cX11_feedNumber 3 = .ok (.iload_n 2, 1) := by decide +kernel
theorem dX11_feedNumber_4 : decode cX11_feedNumber 4 = .ok (.ifCond .lt 54, 3) := by decide +kernel
theorem dX11_feedNumber_7 : decode cX11_feedNumber 7 = .ok (.aload_n 0, 1) := by decide +kernel
theorem dX11_feedNumber_8 : decode cX11_feedNumber 8 = .ok (.getfield 24, 3) := by decide +kernel
theorem dX11_feedNumber_11 : decode cX11_feedNumber 11 = .ok (.ifCond .lt 47, 3) := by decide +kernel
theorem dX11_feedNumber_14 : decode cX11_feedNumber 14 = .ok (.aload_n 0, 1) := by decide +kernel
theorem dX11_feedNumber_15 : decode cX11_feedNumber 15 = .ok (.getfield 24, 3) := by decide +kernel
theorem dX11_feedNumber_18 : decode cX11_feedNumber 18 = .ok (.aload_n 0, 1) := by decide +kernel
theorem dX11_feedNumber_19 : decode cX11_feedNumber 19 = .ok (.getfield 20, 3) := by decide +kernel
theorem dX11_feedNumber_22 : decode cX11_feedNumber 22 = .ok (.arraylength, 1) := by decide +kernel
theorem dX11_feedNumber_23 : decode cX11_feedNumber 23 = .ok (.if_icmp .ge 35, 3) := by decide +kernel
theorem dX11_feedNumber_26 : decode cX11_feedNumber 26 = .ok (.aload_n 0, 1) := by decide +kernel
theorem dX11_feedNumber_27 : decode cX11_feedNumber 27 = .ok (.getfield 20, 3) := by decide +kernel
theorem dX11_feedNumber_30 : decode cX11_feedNumber 30 = .ok (.aload_n 0, 1) := by decide +kernel
theorem dX11_feedNumber_31 : decode cX11_feedNumber 31 = .ok (.getfield 24, 3) := by decide +kernel
theorem dX11_feedNumber_34 : decode cX11_feedNumber 34 = .ok (.iload_n 1, 1) := by decide +kernel
theorem dX11_feedNumber_35 : decode cX11_feedNumber 35 = .ok (.iload_n 2, 1) := by decide +kernel
theorem dX11_feedNumber_36 : decode cX11_feedNumber 36 = .ok (.iushr, 1) := by decide +kernel
theorem dX11_feedNumber_37 : decode cX11_feedNumber 37 = .ok (.sipush 255, 3) := by decide +kernel
theorem dX11_feedNumber_40 : decode cX11_feedNumber 40 = .ok (.iand, 1) := by decide +kernel
theorem dX11_feedNumber_41 : decode cX11_feedNumber 41 = .ok (.iastore, 1) := by decide +kernel
theorem dX11_feedNumber_42 : decode cX11_feedNumber 42 = .ok (.aload_n 0, 1) := by decide +kernel
theorem dX11_feedNumber_43 : decode cX11_feedNumber 43 = .ok (.dup, 1) := by decide +kernel
theorem dX11_feedNumber_44 : decode cX11_feedNumber 44 = .ok (.getfield 24, 3) := by decide +kernel
theorem dX11_feedNumber_47 : decode cX11_feedNumber 47 = .ok (.iconst 1, 1) := by decide +kernel
theorem dX11_feedNumber_48 : decode cX11_feedNumber 48 = .ok (.iadd, 1) := by decide +kernel
theorem dX11_feedNumber_49 : decode cX11_feedNumber 49 = .ok (.putfield 24, 3) := by decide +kernel
theorem dX11_feedNumber_52 : decode cX11_feedNumber 52 = .ok (.iinc 2 (-8), 3) := by decide +kernel
theorem dX11_feedNumber_55 : decode cX11_feedNumber 55 = .ok (.goto (-52), 3) := by decide +kernel
theorem dX11_feedNumber_58 : decode cX11_feedNumber 58 = .ok (.return_, 1) := by decide +kernel
theorem dX11_isWrong_0 : decode cX11_isWrong 0 = .ok (.aload_n 0, 1) := by decide +kernel
theorem dX11_isWrong_1 : decode cX11_isWrong 1 = .ok (.getfield 50, 3) := by decide +kernel
theorem dX11_isWrong_4 : decode cX11_isWrong 4 = .ok (.aload_n 0, 1) := by decide +kernel
theorem dX11_isWrong_5 : decode cX11_isWrong 5 = .ok (.getfield 10, 3) := by decide +kernel
theorem dX11_isWrong_8 : decode cX11_isWrong 8 = .ok (.invokevirtual 187, 3) := by decide +kernel
theorem dX11_isWrong_11 : decode cX11_isWrong 11 = .ok (.iload_n 1, 1) := by decide +kernel
theorem dX11_isWrong_12 : decode cX11_isWrong 12 = .ok (.aload_n 2, 1) := by decide +kernel
theorem dX11_isWrong_13 : decode cX11_isWrong 13 = .ok (.iload_n 3, 1) := by decide +kernel
theorem dX11_isWrong_14 : decode cX11_isWrong 14 = .ok (.invokevirtual 191, 3) := by decide +kernel
theorem dX11_isWrong_17 : decode cX11_isWrong 17 = .ok (.istore 4, 2) := by decide +kernel
theorem dX11_isWrong_19 : decode cX11_isWrong 19 = .ok (.iload 4, 2) := by decide +kernel
theorem dX11_isWrong_21 : decode cX11_isWrong 21 = .ok (.ldc 186, 2) := by decide +kernel
theorem dX11_isWrong_23 : decode cX11_isWrong 23 = .ok (.if_icmp .eq 17, 3) := by decide +kernel
theorem dX11_isWrong_26 : decode cX11_isWrong 26 = .ok (.iload 4, 2) := by decide +kernel
theorem dX11_isWrong_28 : decode cX11_isWrong 28 = .ok (.aload_n 2, 1) := by decide +kernel
theorem dX11_isWrong_29 : decode cX11_isWrong 29 = .ok (.iload_n 3, 1) := by decide +kernel
theorem dX11_isWrong_30 : decode cX11_isWrong 30 = .ok (.invokevirtual 176, 3) := by decide +kernel
theorem dX11_isWrong_33 : decode cX11_isWrong 33 = .ok (.if_icmp .eq 7, 3) := by decide +kernel
theorem dX11_isWrong_36 : decode cX11_isWrong 36 = .ok (.iconst 1, 1) := by decide +kernel
theorem dX11_isWrong_37 : decode cX11_isWrong 37 = .ok (.goto 4, 3) := by decide +kernel
theorem dX11_isWrong_40 : decode cX11_isWrong 40 = .ok (.iconst 0, 1) := by decide +kernel
theorem dX11_isWrong_41 : decode cX11_isWrong 41 = .ok (.ireturn, 1) := by decide +kernel
theorem dX11_comesAgain_0 : decode cX11_comesAgain 0 = .ok (.iload_n 1, 1) := by decide +kernel
theorem dX11_comesAgain_1 : decode cX11_comesAgain 1 = .ok (.iconst 1, 1) := by decide +kernel
theorem dX11_comesAgain_2 : decode cX11_comesAgain 2 = .ok (.if_icmp .ge 5, 3) := by decide +kernel
theorem dX11_comesAgain_5 : decode cX11_comesAgain 5 = .ok (.iconst 0, 1) := by decide +kernel
theorem dX11_comesAgain_6 : decode cX11_comesAgain 6 = .ok (.ireturn, 1) := by decide +kernel
theorem dX11_comesAgain_7 : decode cX11_comesAgain 7 = .ok (.iload_n 1, 1) := by decide +kernel
theorem dX11_comesAgain_8 : decode cX11_comesAgain 8 = .ok (.istore_n 3, 1) := by decide +kernel
theorem dX11_comesAgain_9 : decode cX11_comesAgain 9 = .ok (.iload_n 3, 1) := by decide +kernel
theorem dX11_comesAgain_10 : decode cX11_comesAgain 10 = .ok (.iload_n 2, 1) := by decide +kernel
theorem dX11_comesAgain_11 : decode cX11_comesAgain 11 = .ok (.if_icmp .gt 37, 3) := by decide +kernel
theorem dX11_comesAgain_14 : decode cX11_comesAgain 14 = .ok (.iload_n 3, 1) := by decide +kernel
theorem dX11_comesAgain_15 : decode cX11_comesAgain 15 = .ok (.aload_n 0, 1) := by decide +kernel
theorem dX11_comesAgain_16 : decode cX11_comesAgain 16 = .ok (.getfield 82, 3) := by decide +kernel
theorem dX11_comesAgain_19 : decode cX11_comesAgain 19 = .ok (.arraylength, 1) := by decide +kernel
theorem dX11_comesAgain_20 : decode cX11_comesAgain 20 = .ok (.if_icmp .ge 28, 3) := by decide +kernel
theorem dX11_comesAgain_23 : decode cX11_comesAgain 23 = .ok (.aload_n 0, 1) := by decide +kernel
theorem dX11_comesAgain_24 : decode cX11_comesAgain 24 = .ok (.getfield 82, 3) := by decide +kernel
theorem dX11_comesAgain_27 : decode cX11_comesAgain 27 = .ok (.iload_n 3, 1) := by decide +kernel
theorem dX11_comesAgain_28 : decode cX11_comesAgain 28 = .ok (.iaload, 1) := by decide +kernel
theorem dX11_comesAgain_29 : decode cX11_comesAgain 29 = .ok (.aload_n 0, 1) := by decide +kernel
theorem dX11_comesAgain_30 : decode cX11_comesAgain 30 = .ok (.getfield 82, 3) := by decide +kernel
theorem dX11_comesAgain_33 : decode cX11_comesAgain 33 = .ok (.iload_n 3, 1) := by decide +kernel
theorem dX11_comesAgain_34 : decode cX11_comesAgain 34 = .ok (.iload_n 1, 1) := by decide +kernel
theorem dX11_comesAgain_35 : decode cX11_comesAgain 35 = .ok (.isub, 1) := by decide +kernel
theorem dX11_comesAgain_36 : decode cX11_comesAgain 36 = .ok (.iaload, 1) := by decide +kernel
theorem dX11_comesAgain_37 : decode cX11_comesAgain 37 = .ok (.if_icmp .eq 5, 3) := by decide +kernel
theorem dX11_comesAgain_40 : decode cX11_comesAgain 40 = .ok (.iconst 0, 1) := by decide +kernel
theorem dX11_comesAgain_41 : decode cX11_comesAgain 41 = .ok (.ireturn, 1) := by decide +kernel
theorem dX11_comesAgain_42 : decode cX11_comesAgain 42 = .ok (.iinc 3 1, 3) := by decide +kernel
theorem dX11_comesAgain_45 : decode cX11_comesAgain 45 = .ok (.goto (-36), 3) := by decide +kernel
theorem dX11_comesAgain_48 : decode cX11_comesAgain 48 = .ok (.iconst 1, 1) := by decide +kernel
theorem dX11_comesAgain_49 : decode cX11_comesAgain 49 = .ok (.ireturn, 1) := by decide +kernel
theorem dX11_wouldShowSights_0 : decode cX11_wouldShowSights 0 = .ok (.iconst 0, 1) := by decide +kernel
theorem dX11_wouldShowSights_1 : decode cX11_wouldShowSights 1 = .ok (.istore 4, 2) := by decide +kernel
theorem dX11_wouldShowSights_3 : decode cX11_wouldShowSights 3 = .ok (.iload 4, 2) := by decide +kernel
theorem dX11_wouldShowSights_5 : decode cX11_wouldShowSights 5 = .ok (.aload_n 0, 1) := by decide +kernel
theorem dX11_wouldShowSights_6 : decode cX11_wouldShowSights 6 = .ok (.getfield 10, 3) := by decide +kernel
theorem dX11_wouldShowSights_9 : decode cX11_wouldShowSights 9 = .ok (.getfield 237, 3) := by decide +kernel
theorem dX11_wouldShowSights_12 : decode cX11_wouldShowSights 12 = .ok (.if_icmp .ge 53, 3) := by decide +kernel
theorem dX11_wouldShowSights_15 : decode cX11_wouldShowSights 15 = .ok (.aload_n 0, 1) := by decide +kernel
theorem dX11_wouldShowSights_16 : decode cX11_wouldShowSights 16 = .ok (.getfield 10, 3) := by decide +kernel
theorem dX11_wouldShowSights_19 : decode cX11_wouldShowSights 19 = .ok (.iload 4, 2) := by decide +kernel
theorem dX11_wouldShowSights_21 : decode cX11_wouldShowSights 21 = .ok (.invokevirtual 316, 3) := by decide +kernel
theorem dX11_wouldShowSights_24 : decode cX11_wouldShowSights 24 = .ok (.iload_n 1, 1) := by decide +kernel
theorem dX11_wouldShowSights_25 : decode cX11_wouldShowSights 25 = .ok (.if_icmp .ne 34, 3) := by decide +kernel
theorem dX11_wouldShowSights_28 : decode cX11_wouldShowSights 28 = .ok (.aload_n 2, 1) := by decide +kernel
theorem dX11_wouldShowSights_29 : decode cX11_wouldShowSights 29 = .ok (.aload_n 0, 1) := by decide +kernel
theorem dX11_wouldShowSights_30 : decode cX11_wouldShowSights 30 = .ok (.getfield 10, 3) := by decide +kernel
theorem dX11_wouldShowSights_33 : decode cX11_wouldShowSights 33 = .ok (.iload 4, 2) := by decide +kernel
theorem dX11_wouldShowSights_35 : decode cX11_wouldShowSights 35 = .ok (.invokevirtual 319, 3) := by decide +kernel
theorem dX11_wouldShowSights_38 : decode cX11_wouldShowSights 38 = .ok (.iload_n 3, 1) := by decide +kernel
theorem dX11_wouldShowSights_39 : decode cX11_wouldShowSights 39 = .ok (.invokestatic 322, 3) := by decide +kernel
theorem dX11_wouldShowSights_42 : decode cX11_wouldShowSights 42 = .ok (.invokevirtual 326, 3) := by decide +kernel
theorem dX11_wouldShowSights_45 : decode cX11_wouldShowSights 45 = .ok (.aload_n 0, 1) := by decide +kernel
theorem dX11_wouldShowSights_46 : decode cX11_wouldShowSights 46 = .ok (.getfield 10, 3) := by decide +kernel
theorem dX11_wouldShowSights_49 : decode cX11_wouldShowSights 49 = .ok (.iload 4, 2) := by decide +kernel
theorem dX11_wouldShowSights_51 : decode cX11_wouldShowSights 51 = .ok (.invokevirtual 330, 3) := by decide +kernel
theorem dX11_wouldShowSights_54 : decode cX11_wouldShowSights 54 = .ok (.if_icmp .eq 5, 3) := by decide +kernel
theorem dX11_wouldShowSights_57 : decode cX11_wouldShowSights 57 = .ok (.iconst 0, 1) := by decide +kernel
theorem dX11_wouldShowSights_58 : decode cX11_wouldShowSights 58 = .ok (.ireturn, 1) := by decide +kernel
theorem dX11_wouldShowSights_59 : decode cX11_wouldShowSights 59 = .ok (.iinc 4 1, 3) := by decide +kernel
theorem dX11_wouldShowSights_62 : decode cX11_wouldShowSights 62 = .ok (.goto (-59), 3) := by decide +kernel
theorem dX11_wouldShowSights_65 : decode cX11_wouldShowSights 65 = .ok (.iconst 1, 1) := by decide +kernel
theorem dX11_wouldShowSights_66 : decode cX11_wouldShowSights 66 = .ok (.ireturn, 1) := by decide +kernel
theorem dX11_dayWorn_0 : decode cX11_dayWorn 0 = .ok (.aload_n 0, 1) := by decide +kernel
theorem dX11_dayWorn_1 : decode cX11_dayWorn 1 = .ok (.getfield 10, 3) := by decide +kernel
theorem dX11_dayWorn_4 : decode cX11_dayWorn 4 = .ok (.iload_n 1, 1) := by decide +kernel
theorem dX11_dayWorn_5 : decode cX11_dayWorn 5 = .ok (.invokevirtual 95, 3) := by decide +kernel
theorem dX11_dayWorn_8 : decode cX11_dayWorn 8 = .ok (.astore_n 2, 1) := by decide +kernel
theorem dX11_dayWorn_9 : decode cX11_dayWorn 9 = .ok (.aload_n 2, 1) := by decide +kernel
theorem dX11_dayWorn_10 : decode cX11_dayWorn 10 = .ok (.ifnonnull 7, 3) := by decide +kernel
theorem dX11_dayWorn_13 : decode cX11_dayWorn 13 = .ok (.iconst (-1), 1) := by decide +kernel
theorem dX11_dayWorn_14 : decode cX11_dayWorn 14 = .ok (.goto 14, 3) := by decide +kernel
theorem dX11_dayWorn_17 : decode cX11_dayWorn 17 = .ok (.aload_n 2, 1) := by decide +kernel
theorem dX11_dayWorn_18 : decode cX11_dayWorn 18 = .ok (.aload_n 0, 1) := by decide +kernel
theorem dX11_dayWorn_19 : decode cX11_dayWorn 19 = .ok (.getfield 10, 3) := by decide +kernel
theorem dX11_dayWorn_22 : decode cX11_dayWorn 22 = .ok (.getfield 140, 3) := by decide +kernel
theorem dX11_dayWorn_25 : decode cX11_dayWorn 25 = .ok (.invokevirtual 333, 3) := by decide +kernel
theorem dX11_dayWorn_28 : decode cX11_dayWorn 28 = .ok (.ireturn, 1) := by decide +kernel
theorem dX11_pairsSharedWithEarlier_0 : decode cX11_pairsSharedWithEarlier 0 = .ok (.iconst 0, 1) := by decide +kernel
theorem dX11_pairsSharedWithEarlier_1 : decode cX11_pairsSharedWithEarlier 1 = .ok (.istore_n 3, 1) := by decide +kernel
theorem dX11_pairsSharedWithEarlier_2 : decode cX11_pairsSharedWithEarlier 2 = .ok (.iconst 0, 1) := by decide +kernel
theorem dX11_pairsSharedWithEarlier_3 : decode cX11_pairsSharedWithEarlier 3 = .ok (.istore 4, 2) := by decide +kernel
theorem dX11_pairsSharedWithEarlier_5 : decode cX11_pairsSharedWithEarlier 5 = .ok (.iload 4, 2) := by decide +kernel
theorem dX11_pairsSharedWithEarlier_7 : decode cX11_pairsSharedWithEarlier 7 = .ok (.iload_n 1, 1) := by decide +kernel
theorem dX11_pairsSharedWithEarlier_8 : decode cX11_pairsSharedWithEarlier 8 = .ok (.if_icmp .ge 36, 3) := by decide +kernel
theorem dX11_pairsSharedWithEarlier_11 : decode cX11_pairsSharedWithEarlier 11 = .ok (.aload_n 0, 1) := by decide +kernel
theorem dX11_pairsSharedWithEarlier_12 : decode cX11_pairsSharedWithEarlier 12 = .ok (.getfield 10, 3) := by decide +kernel
theorem dX11_pairsSharedWithEarlier_15 : decode cX11_pairsSharedWithEarlier 15 = .ok (.iload 4, 2) := by decide +kernel
theorem dX11_pairsSharedWithEarlier_17 : decode cX11_pairsSharedWithEarlier 17 = .ok (.invokevirtual 95, 3) := by decide +kernel
theorem dX11_pairsSharedWithEarlier_20 : decode cX11_pairsSharedWithEarlier 20 = .ok (.astore 5, 2) := by decide +kernel
theorem dX11_pairsSharedWithEarlier_22 : decode cX11_pairsSharedWithEarlier 22 = .ok (.aload 5, 2) := by decide +kernel
theorem dX11_pairsSharedWithEarlier_24 : decode cX11_pairsSharedWithEarlier 24 = .ok (.ifnull 14, 3) := by decide +kernel
theorem dX11_pairsSharedWithEarlier_27 : decode cX11_pairsSharedWithEarlier 27 = .ok (.iload_n 3, 1) := by decide +kernel
theorem dX11_pairsSharedWithEarlier_28 : decode cX11_pairsSharedWithEarlier 28 = .ok (.aload_n 2, 1) := by decide +kernel
theorem dX11_pairsSharedWithEarlier_29 : decode cX11_pairsSharedWithEarlier 29 = .ok (.aload 5, 2) := by decide +kernel
theorem dX11_pairsSharedWithEarlier_31 : decode cX11_pairsSharedWithEarlier 31 = .ok (.invokevirtual 336, 3) := by decide +kernel
theorem dX11_pairsSharedWithEarlier_34 : decode cX11_pairsSharedWithEarlier 34 = .ok (.invokestatic 340, 3) := by decide +kernel
theorem dX11_pairsSharedWithEarlier_37 : decode cX11_pairsSharedWithEarlier 37 = .ok (.istore_n 3, 1) := by decide +kernel
theorem dX11_pairsSharedWithEarlier_38 : decode cX11_pairsSharedWithEarlier 38 = .ok (.iinc 4 1, 3) := by decide +kernel
theorem dX11_pairsSharedWithEarlier_41 : decode cX11_pairsSharedWithEarlier 41 = .ok (.goto (-36), 3) := by decide +kernel
theorem dX11_pairsSharedWithEarlier_44 : decode cX11_pairsSharedWithEarlier 44 = .ok (.iload_n 3, 1) := by decide +kernel
theorem dX11_pairsSharedWithEarlier_45 : decode cX11_pairsSharedWithEarlier 45 = .ok (.ireturn, 1) := by decide +kernel
theorem dX11_areTeeth_0 : decode cX11_areTeeth 0 = .ok (.iload_n 0, 1) := by decide +kernel
theorem dX11_areTeeth_1 : decode cX11_areTeeth 1 = .ok (.bipush 6, 2) := by decide +kernel
theorem dX11_areTeeth_3 : decode cX11_areTeeth 3 = .ok (.if_icmp .lt 13, 3) := by decide +kernel
theorem dX11_areTeeth_6 : decode cX11_areTeeth 6 = .ok (.iload_n 0, 1) := by decide +kernel
theorem dX11_areTeeth_7 : decode cX11_areTeeth 7 = .ok (.bipush 120, 2) := by decide +kernel
theorem dX11_areTeeth_9 : decode cX11_areTeeth 9 = .ok (.if_icmp .gt 7, 3) := by decide +kernel
theorem dX11_areTeeth_12 : decode cX11_areTeeth 12 = .ok (.iconst 1, 1) := by decide +kernel
theorem dX11_areTeeth_13 : decode cX11_areTeeth 13 = .ok (.goto 4, 3) := by decide +kernel
theorem dX11_areTeeth_16 : decode cX11_areTeeth 16 = .ok (.iconst 0, 1) := by decide +kernel
theorem dX11_areTeeth_17 : decode cX11_areTeeth 17 = .ok (.ireturn, 1) := by decide +kernel
theorem dX11_isDay_0 : decode cX11_isDay 0 = .ok (.iload_n 0, 1) := by decide +kernel
theorem dX11_isDay_1 : decode cX11_isDay 1 = .ok (.ifCond .lt 13, 3) := by decide +kernel
theorem dX11_isDay_4 : decode cX11_isDay 4 = .ok (.iload_n 0, 1) := by decide +kernel
theorem dX11_isDay_5 : decode cX11_isDay 5 = .ok (.ldc 139, 2) := by decide +kernel
theorem dX11_isDay_7 : decode cX11_isDay 7 = .ok (.if_icmp .gt 7, 3) := by decide +kernel
theorem dX11_isDay_10 : decode cX11_isDay 10 = .ok (.iconst 1, 1) := by decide +kernel
theorem dX11_isDay_11 : decode cX11_isDay 11 = .ok (.goto 4, 3) := by decide +kernel
theorem dX11_isDay_14 : decode cX11_isDay 14 = .ok (.iconst 0, 1) := by decide +kernel
theorem dX11_isDay_15 : decode cX11_isDay 15 = .ok (.ireturn, 1) := by decide +kernel
theorem dX11_isRate_0 : decode cX11_isRate 0 = .ok (.iload_n 0, 1) := by decide +kernel
theorem dX11_isRate_1 : decode cX11_isRate 1 = .ok (.iconst 1, 1) := by decide +kernel
theorem dX11_isRate_2 : decode cX11_isRate 2 = .ok (.if_icmp .lt 26, 3) := by decide +kernel
theorem dX11_isRate_5 : decode cX11_isRate 5 = .ok (.iload_n 0, 1) := by decide +kernel
theorem dX11_isRate_6 : decode cX11_isRate 6 = .ok (.ldc_w 343, 3) := by decide +kernel
theorem dX11_isRate_9 : decode cX11_isRate 9 = .ok (.if_icmp .gt 19, 3) := by decide +kernel
theorem dX11_isRate_12 : decode cX11_isRate 12 = .ok (.iload_n 1, 1) := by decide +kernel
theorem dX11_isRate_13 : decode cX11_isRate 13 = .ok (.iconst 1, 1) := by decide +kernel
theorem dX11_isRate_14 : decode cX11_isRate 14 = .ok (.if_icmp .lt 14, 3) := by decide +kernel
theorem dX11_isRate_17 : decode cX11_isRate 17 = .ok (.iload_n 1, 1) := by decide +kernel
theorem dX11_isRate_18 : decode cX11_isRate 18 = .ok (.ldc_w 343, 3) := by decide +kernel
theorem dX11_isRate_21 : decode cX11_isRate 21 = .ok (.if_icmp .gt 7, 3) := by decide +kernel
theorem dX11_isRate_24 : decode cX11_isRate 24 = .ok (.iconst 1, 1) := by decide +kernel
theorem dX11_isRate_25 : decode cX11_isRate 25 = .ok (.goto 4, 3) := by decide +kernel
theorem dX11_isRate_28 : decode cX11_isRate 28 = .ok (.iconst 0, 1) := by decide +kernel
theorem dX11_isRate_29 : decode cX11_isRate 29 = .ok (.ireturn, 1) := by decide +kernel
theorem dX11_daysGone_0 : decode cX11_daysGone 0 = .ok (.iload_n 1, 1) := by decide +kernel
theorem dX11_daysGone_1 : decode cX11_daysGone 1 = .ok (.ifCond .le 12, 3) := by decide +kernel
theorem dX11_daysGone_4 : decode cX11_daysGone 4 = .ok (.iload_n 0, 1) := by decide +kernel
theorem dX11_daysGone_5 : decode cX11_daysGone 5 = .ok (.iload_n 0, 1) := by decide +kernel
theorem dX11_daysGone_6 : decode cX11_daysGone 6 = .ok (.iload_n 1, 1) := by decide +kernel
theorem dX11_daysGone_7 : decode cX11_daysGone 7 = .ok (.idiv, 1) := by decide +kernel
theorem dX11_daysGone_8 : decode cX11_daysGone 8 = .ok (.isub, 1) := by decide +kernel
theorem dX11_daysGone_9 : decode cX11_daysGone 9 = .ok (.i2l, 1) := by decide +kernel
theorem dX11_daysGone_10 : decode cX11_daysGone 10 = .ok (.goto 5, 3) := by decide +kernel
theorem dX11_daysGone_13 : decode cX11_daysGone 13 = .ok (.iload_n 0, 1) := by decide +kernel
theorem dX11_daysGone_14 : decode cX11_daysGone 14 = .ok (.i2l, 1) := by decide +kernel
theorem dX11_daysGone_15 : decode cX11_daysGone 15 = .ok (.lreturn, 1) := by decide +kernel
theorem dX11_cut_0 : decode cX11_cut 0 = .ok (.lload_n 2, 1) := by decide +kernel
theorem dX11_cut_1 : decode cX11_cut 1 = .ok (.lconst 0, 1) := by decide +kernel
theorem dX11_cut_2 : decode cX11_cut 2 = .ok (.lcmp, 1) := by decide +kernel
theorem dX11_cut_3 : decode cX11_cut 3 = .ok (.ifCond .ne 7, 3) := by decide +kernel
theorem dX11_cut_6 : decode cX11_cut 6 = .ok (.lconst 0, 1) := by decide +kernel
theorem dX11_cut_7 : decode cX11_cut 7 = .ok (.goto 6, 3) := by decide +kernel
theorem dX11_cut_10 : decode cX11_cut 10 = .ok (.lload_n 0, 1) := by decide +kernel
theorem dX11_cut_11 : decode cX11_cut 11 = .ok (.lload_n 2, 1) := by decide +kernel
theorem dX11_cut_12 : decode cX11_cut 12 = .ok (.ldiv, 1) := by decide +kernel
theorem dX11_cut_13 : decode cX11_cut 13 = .ok (.lreturn, 1) := by decide +kernel
theorem dX11_remainder_0 : decode cX11_remainder 0 = .ok (.lload_n 2, 1) := by decide +kernel
theorem dX11_remainder_1 : decode cX11_remainder 1 = .ok (.lconst 0, 1) := by decide +kernel
theorem dX11_remainder_2 : decode cX11_remainder 2 = .ok (.lcmp, 1) := by decide +kernel
theorem dX11_remainder_3 : decode cX11_remainder 3 = .ok (.ifCond .ne 7, 3) := by decide +kernel
theorem dX11_remainder_6 : decode cX11_remainder 6 = .ok (.lconst 0, 1) := by decide +kernel
theorem dX11_remainder_7 : decode cX11_remainder 7 = .ok (.goto 6, 3) := by decide +kernel
theorem dX11_remainder_10 : decode cX11_remainder 10 = .ok (.lload_n 0, 1) := by decide +kernel
theorem dX11_remainder_11 : decode cX11_remainder 11 = .ok (.lload_n 2, 1) := by decide +kernel
theorem dX11_remainder_12 : decode cX11_remainder 12 = .ok (.lrem, 1) := by decide +kernel
theorem dX11_remainder_13 : decode cX11_remainder 13 = .ok (.lreturn, 1) := by decide +kernel
theorem dX11_cutUp_0 : decode cX11_cutUp 0 = .ok (.lload_n 0, 1) := by decide +kernel
theorem dX11_cutUp_1 : decode cX11_cutUp 1 = .ok (.lload_n 2, 1) := by decide +kernel
theorem dX11_cutUp_2 : decode cX11_cutUp 2 = .ok (.invokestatic 344, 3) := by decide +kernel
theorem dX11_cutUp_5 : decode cX11_cutUp 5 = .ok (.lload_n 0, 1) := by decide +kernel
theorem dX11_cutUp_6 : decode cX11_cutUp 6 = .ok (.lload_n 2, 1) := by decide +kernel
theorem dX11_cutUp_7 : decode cX11_cutUp 7 = .ok (.invokestatic 347, 3) := by decide +kernel
theorem dX11_cutUp_10 : decode cX11_cutUp 10 = .ok (.lconst 0, 1) := by decide +kernel
theorem dX11_cutUp_11 : decode cX11_cutUp 11 = .ok (.lcmp, 1) := by decide +kernel
theorem dX11_cutUp_12 : decode cX11_cutUp 12 = .ok (.ifCond .ne 7, 3) := by decide +kernel
theorem dX11_cutUp_15 : decode cX11_cutUp 15 = .ok (.iconst 0, 1) := by decide +kernel
theorem dX11_cutUp_16 : decode cX11_cutUp 16 = .ok (.goto 4, 3) := by decide +kernel
theorem dX11_cutUp_19 : decode cX11_cutUp 19 = .ok (.iconst 1, 1) := by decide +kernel
theorem dX11_cutUp_20 : decode cX11_cutUp 20 = .ok (.i2l, 1) := by decide +kernel
theorem dX11_cutUp_21 : decode cX11_cutUp 21 = .ok (.ladd, 1) := by decide +kernel
theorem dX11_cutUp_22 : decode cX11_cutUp 22 = .ok (.lreturn, 1) := by decide +kernel
theorem dX11_onRing_0 : decode cX11_onRing 0 = .ok (.iload_n 1, 1) := by decide +kernel
theorem dX11_onRing_1 : decode cX11_onRing 1 = .ok (.ifCond .le 9, 3) := by decide +kernel
theorem dX11_onRing_4 : decode cX11_onRing 4 = .ok (.iload_n 0, 1) := by decide +kernel
theorem dX11_onRing_5 : decode cX11_onRing 5 = .ok (.iload_n 1, 1) := by decide +kernel
theorem dX11_onRing_6 : decode cX11_onRing 6 = .ok (.irem, 1) := by decide +kernel
theorem dX11_onRing_7 : decode cX11_onRing 7 = .ok (.goto 4, 3) := by decide +kernel
theorem dX11_onRing_10 : decode cX11_onRing 10 = .ok (.iconst 0, 1) := by decide +kernel
theorem dX11_onRing_11 : decode cX11_onRing 11 = .ok (.istore_n 2, 1) := by decide +kernel
theorem dX11_onRing_12 : decode cX11_onRing 12 = .ok (.iload_n 2, 1) := by decide +kernel
theorem dX11_onRing_13 : decode cX11_onRing 13 = .ok (.ifCond .ge 9, 3) := by decide +kernel
theorem dX11_onRing_16 : decode cX11_onRing 16 = .ok (.iload_n 2, 1) := by decide +kernel
theorem dX11_onRing_17 : decode cX11_onRing 17 = .ok (.iload_n 1, 1) := by decide +kernel
theorem dX11_onRing_18 : decode cX11_onRing 18 = .ok (.iadd, 1) := by decide +kernel
theorem dX11_onRing_19 : decode cX11_onRing 19 = .ok (.goto 4, 3) := by decide +kernel
theorem dX11_onRing_22 : decode cX11_onRing 22 = .ok (.iload_n 2, 1) := by decide +kernel
theorem dX11_onRing_23 : decode cX11_onRing 23 = .ok (.ireturn, 1) := by decide +kernel
theorem dX11_inLowestTerms_0 : decode cX11_inLowestTerms 0 = .ok (.lload_n 0, 1) := by decide +kernel
theorem dX11_inLowestTerms_1 : decode cX11_inLowestTerms 1 = .ok (.lload_n 2, 1) := by decide +kernel
theorem dX11_inLowestTerms_2 : decode cX11_inLowestTerms 2 = .ok (.invokestatic 350, 3) := by decide +kernel
theorem dX11_inLowestTerms_5 : decode cX11_inLowestTerms 5 = .ok (.lstore 5, 2) := by decide +kernel
theorem dX11_inLowestTerms_7 : decode cX11_inLowestTerms 7 = .ok (.iload 4, 2) := by decide +kernel
theorem dX11_inLowestTerms_9 : decode cX11_inLowestTerms 9 = .ok (.ifCond .ne 7, 3) := by decide +kernel
theorem dX11_inLowestTerms_12 : decode cX11_inLowestTerms 12 = .ok (.lload_n 0, 1) := by decide +kernel
theorem dX11_inLowestTerms_13 : decode cX11_inLowestTerms 13 = .ok (.goto 4, 3) := by decide +kernel
theorem dX11_inLowestTerms_16 : decode cX11_inLowestTerms 16 = .ok (.lload_n 2, 1) := by decide +kernel
theorem dX11_inLowestTerms_17 : decode cX11_inLowestTerms 17 = .ok (.lload 5, 2) := by decide +kernel
theorem dX11_inLowestTerms_19 : decode cX11_inLowestTerms 19 = .ok (.invokestatic 344, 3) := by decide +kernel
theorem dX11_inLowestTerms_22 : decode cX11_inLowestTerms 22 = .ok (.lreturn, 1) := by decide +kernel
theorem dX11_greatestCommon_0 : decode cX11_greatestCommon 0 = .ok (.lload_n 0, 1) := by decide +kernel
theorem dX11_greatestCommon_1 : decode cX11_greatestCommon 1 = .ok (.lstore 4, 2) := by decide +kernel
theorem dX11_greatestCommon_3 : decode cX11_greatestCommon 3 = .ok (.lload_n 2, 1) := by decide +kernel
theorem dX11_greatestCommon_4 : decode cX11_greatestCommon 4 = .ok (.lstore 6, 2) := by decide +kernel
theorem dX11_greatestCommon_6 : decode cX11_greatestCommon 6 = .ok (.iconst 0, 1) := by decide +kernel
theorem dX11_greatestCommon_7 : decode cX11_greatestCommon 7 = .ok (.istore 8, 2) := by decide +kernel
theorem dX11_greatestCommon_9 : decode cX11_greatestCommon 9 = .ok (.iload 8, 2) := by decide +kernel
theorem dX11_greatestCommon_11 : decode cX11_greatestCommon 11 = .ok (.bipush 100, 2) := by decide +kernel
theorem dX11_greatestCommon_13 : decode cX11_greatestCommon 13 = .ok (.if_icmp .ge 31, 3) := by decide +kernel
theorem dX11_greatestCommon_16 : decode cX11_greatestCommon 16 = .ok (.lload 6, 2) := by decide +kernel
theorem dX11_greatestCommon_18 : decode cX11_greatestCommon 18 = .ok (.lconst 0, 1) := by decide +kernel
theorem dX11_greatestCommon_19 : decode cX11_greatestCommon 19 = .ok (.lcmp, 1) := by decide +kernel
theorem dX11_greatestCommon_20 : decode cX11_greatestCommon 20 = .ok (.ifCond .eq 24, 3) := by decide +kernel
theorem dX11_greatestCommon_23 : decode cX11_greatestCommon 23 = .ok (.lload 4, 2) := by decide +kernel
theorem dX11_greatestCommon_25 : decode cX11_greatestCommon 25 = .ok (.lload 6, 2) := by decide +kernel
theorem dX11_greatestCommon_27 : decode cX11_greatestCommon 27 = .ok (.lrem, 1) := by decide +kernel
theorem dX11_greatestCommon_28 : decode cX11_greatestCommon 28 = .ok (.lstore 9, 2) := by decide +kernel
theorem dX11_greatestCommon_30 : decode cX11_greatestCommon 30 = .ok (.lload 6, 2) := by decide +kernel
theorem dX11_greatestCommon_32 : decode cX11_greatestCommon 32 = .ok (.lstore 4, 2) := by decide +kernel
theorem dX11_greatestCommon_34 : decode cX11_greatestCommon 34 = .ok (.lload 9, 2) := by decide +kernel
theorem dX11_greatestCommon_36 : decode cX11_greatestCommon 36 = .ok (.lstore 6, 2) := by decide +kernel
theorem dX11_greatestCommon_38 : decode cX11_greatestCommon 38 = .ok (.iinc 8 1, 3) := by decide +kernel
theorem dX11_greatestCommon_41 : decode cX11_greatestCommon 41 = .ok (.goto (-32), 3) := by decide +kernel
theorem dX11_greatestCommon_44 : decode cX11_greatestCommon 44 = .ok (.lload 4, 2) := by decide +kernel
theorem dX11_greatestCommon_46 : decode cX11_greatestCommon 46 = .ok (.lreturn, 1) := by decide +kernel
