theorem dX10_partFrom_138 : decode cX10_partFrom 138 = .ok (.iload 6, 2) := by decide +kernel
theorem dX10_partFrom_140 : decode cX10_partFrom 140 = .ok (.imul, 1) := by decide +kernel
theorem dX10_partFrom_141 : decode cX10_partFrom 141 = .ok (.iload 7, 2) := by decide +kernel
theorem dX10_partFrom_143 : decode cX10_partFrom 143 = .ok (.iadd, 1) := by decide +kernel
theorem dX10_partFrom_144 : decode cX10_partFrom 144 = .ok (.iconst (-1), 1) := by decide +kernel
theorem dX10_partFrom_145 : decode cX10_partFrom 145 = .ok (.iastore, 1) := by decide +kernel
theorem dX10_partFrom_146 : decode cX10_partFrom 146 = .ok (.aload_n 0, 1) := by decide +kernel
theorem dX10_partFrom_147 : decode cX10_partFrom 147 = .ok (.getfield 60, 3) := by decide +kernel
theorem dX10_partFrom_150 : decode cX10_partFrom 150 = .ok (.iload_n 3, 1) := by decide +kernel
theorem dX10_partFrom_151 : decode cX10_partFrom 151 = .ok (.iconst 4, 1) := by decide +kernel
theorem dX10_partFrom_152 : decode cX10_partFrom 152 = .ok (.iload 6, 2) := by decide +kernel
theorem dX10_partFrom_154 : decode cX10_partFrom 154 = .ok (.imul, 1) := by decide +kernel
theorem dX10_partFrom_155 : decode cX10_partFrom 155 = .ok (.iload 7, 2) := by decide +kernel
theorem dX10_partFrom_157 : decode cX10_partFrom 157 = .ok (.iadd, 1) := by decide +kernel
theorem dX10_partFrom_158 : decode cX10_partFrom 158 = .ok (.iastore, 1) := by decide +kernel
theorem dX10_partFrom_159 : decode cX10_partFrom 159 = .ok (.iinc 3 1, 3) := by decide +kernel
theorem dX10_partFrom_162 : decode cX10_partFrom 162 = .ok (.iinc 5 1, 3) := by decide +kernel
theorem dX10_partFrom_165 : decode cX10_partFrom 165 = .ok (.goto (-130), 3) := by decide +kernel
theorem dX10_partFrom_168 : decode cX10_partFrom 168 = .ok (.iinc 4 1, 3) := by decide +kernel
theorem dX10_partFrom_171 : decode cX10_partFrom 171 = .ok (.goto (-145), 3) := by decide +kernel
theorem dX10_partFrom_174 : decode cX10_partFrom 174 = .ok (.iload_n 3, 1) := by decide +kernel
theorem dX10_partFrom_175 : decode cX10_partFrom 175 = .ok (.ireturn, 1) := by decide +kernel
theorem dX10_parts_0 : decode cX10_parts 0 = .ok (.aload_n 0, 1) := by decide +kernel
theorem dX10_parts_1 : decode cX10_parts 1 = .ok (.invokevirtual 219, 3) := by decide +kernel
theorem dX10_parts_4 : decode cX10_parts 4 = .ok (.iconst 0, 1) := by decide +kernel
theorem dX10_parts_5 : decode cX10_parts 5 = .ok (.istore_n 2, 1) := by decide +kernel
theorem dX10_parts_6 : decode cX10_parts 6 = .ok (.iconst 0, 1) := by decide +kernel
theorem dX10_parts_7 : decode cX10_parts 7 = .ok (.istore_n 3, 1) := by decide +kernel
theorem dX10_parts_8 : decode cX10_parts 8 = .ok (.iconst 0, 1) := by decide +kernel
theorem dX10_parts_9 : decode cX10_parts 9 = .ok (.istore 4, 2) := by decide +kernel
theorem dX10_parts_11 : decode cX10_parts 11 = .ok (.iload 4, 2) := by decide +kernel
theorem dX10_parts_13 : decode cX10_parts 13 = .ok (.aload_n 0, 1) := by decide +kernel
theorem dX10_parts_14 : decode cX10_parts 14 = .ok (.getfield 7, 3) := by decide +kernel
theorem dX10_parts_17 : decode cX10_parts 17 = .ok (.if_icmp .ge 71, 3) := by decide +kernel
theorem dX10_parts_20 : decode cX10_parts 20 = .ok (.iconst 0, 1) := by decide +kernel
theorem dX10_parts_21 : decode cX10_parts 21 = .ok (.istore 5, 2) := by decide +kernel
theorem dX10_parts_23 : decode cX10_parts 23 = .ok (.iload 5, 2) := by decide +kernel
theorem dX10_parts_25 : decode cX10_parts 25 = .ok (.aload_n 0, 1) := by decide +kernel
theorem dX10_parts_26 : decode cX10_parts 26 = .ok (.getfield 13, 3) := by decide +kernel
theorem dX10_parts_29 : decode cX10_parts 29 = .ok (.if_icmp .ge 53, 3) := by decide +kernel
theorem dX10_parts_32 : decode cX10_parts 32 = .ok (.aload_n 0, 1) := by decide +kernel
theorem dX10_parts_33 : decode cX10_parts 33 = .ok (.getfield 57, 3) := by decide +kernel
theorem dX10_parts_36 : decode cX10_parts 36 = .ok (.iconst 4, 1) := by decide +kernel
theorem dX10_parts_37 : decode cX10_parts 37 = .ok (.iload 4, 2) := by decide +kernel
theorem dX10_parts_39 : decode cX10_parts 39 = .ok (.imul, 1) := by decide +kernel
theorem dX10_parts_40 : decode cX10_parts 40 = .ok (.iload 5, 2) := by decide +kernel
theorem dX10_parts_42 : decode cX10_parts 42 = .ok (.iadd, 1) := by decide +kernel
theorem dX10_parts_43 : decode cX10_parts 43 = .ok (.iaload, 1) := by decide +kernel
theorem dX10_parts_44 : decode cX10_parts 44 = .ok (.ifCond .lt 32, 3) := by decide +kernel
theorem dX10_parts_47 : decode cX10_parts 47 = .ok (.aload_n 0, 1) := by decide +kernel
theorem dX10_parts_48 : decode cX10_parts 48 = .ok (.iconst 4, 1) := by decide +kernel
theorem dX10_parts_49 : decode cX10_parts 49 = .ok (.iload 4, 2) := by decide +kernel
theorem dX10_parts_51 : decode cX10_parts 51 = .ok (.imul, 1) := by decide +kernel
theorem dX10_parts_52 : decode cX10_parts 52 = .ok (.iload 5, 2) := by decide +kernel
theorem dX10_parts_54 : decode cX10_parts 54 = .ok (.iadd, 1) := by decide +kernel
theorem dX10_parts_55 : decode cX10_parts 55 = .ok (.invokevirtual 222, 3) := by decide +kernel
theorem dX10_parts_58 : decode cX10_parts 58 = .ok (.istore 6, 2) := by decide +kernel
theorem dX10_parts_60 : decode cX10_parts 60 = .ok (.iinc 2 1, 3) := by decide +kernel
theorem dX10_parts_63 : decode cX10_parts 63 = .ok (.iload 6, 2) := by decide +kernel
theorem dX10_parts_65 : decode cX10_parts 65 = .ok (.iload_n 3, 1) := by decide +kernel
theorem dX10_parts_66 : decode cX10_parts 66 = .ok (.if_icmp .le 8, 3) := by decide +kernel
theorem dX10_parts_69 : decode cX10_parts 69 = .ok (.iload 6, 2) := by decide +kernel
theorem dX10_parts_71 : decode cX10_parts 71 = .ok (.goto 4, 3) := by decide +kernel
theorem dX10_parts_74 : decode cX10_parts 74 = .ok (.iload_n 3, 1) := by decide +kernel
theorem dX10_parts_75 : decode cX10_parts 75 = .ok (.istore_n 3, 1) := by decide +kernel
theorem dX10_parts_76 : decode cX10_parts 76 = .ok (.iinc 5 1, 3) := by decide +kernel
theorem dX10_parts_79 : decode cX10_parts 79 = .ok (.goto (-56), 3) := by decide +kernel
theorem dX10_parts_82 : decode cX10_parts 82 = .ok (.iinc 4 1, 3) := by decide +kernel
theorem dX10_parts_85 : decode cX10_parts 85 = .ok (.goto (-74), 3) := by decide +kernel
theorem dX10_parts_88 : decode cX10_parts 88 = .ok (.iload_n 1, 1) := by decide +kernel
theorem dX10_parts_89 : decode cX10_parts 89 = .ok (.ifCond .eq 7, 3) := by decide +kernel
theorem dX10_parts_92 : decode cX10_parts 92 = .ok (.iload_n 3, 1) := by decide +kernel
theorem dX10_parts_93 : decode cX10_parts 93 = .ok (.goto 4, 3) := by decide +kernel
theorem dX10_parts_96 : decode cX10_parts 96 = .ok (.iload_n 2, 1) := by decide +kernel
theorem dX10_parts_97 : decode cX10_parts 97 = .ok (.ireturn, 1) := by decide +kernel
theorem dX10_leadsNow_0 : decode cX10_leadsNow 0 = .ok (.aload_n 0, 1) := by decide +kernel
theorem dX10_leadsNow_1 : decode cX10_leadsNow 1 = .ok (.invokevirtual 219, 3) := by decide +kernel
theorem dX10_leadsNow_4 : decode cX10_leadsNow 4 = .ok (.aload_n 0, 1) := by decide +kernel
theorem dX10_leadsNow_5 : decode cX10_leadsNow 5 = .ok (.invokevirtual 225, 3) := by decide +kernel
theorem dX10_leadsNow_8 : decode cX10_leadsNow 8 = .ok (.ireturn, 1) := by decide +kernel
theorem dX10_now_0 : decode cX10_now 0 = .ok (.iload_n 1, 1) := by decide +kernel
theorem dX10_now_1 : decode cX10_now 1 = .ok (.tableswitch 95 0 6 #[43, 51, 59, 67, 78, 83, 89], 43) := by decide +kernel
theorem dX10_now_44 : decode cX10_now 44 = .ok (.aload_n 0, 1) := by decide +kernel
theorem dX10_now_45 : decode cX10_now 45 = .ok (.getfield 23, 3) := by decide +kernel
theorem dX10_now_48 : decode cX10_now 48 = .ok (.bipush 9, 2) := by decide +kernel
theorem dX10_now_50 : decode cX10_now 50 = .ok (.iaload, 1) := by decide +kernel
theorem dX10_now_51 : decode cX10_now 51 = .ok (.ireturn, 1) := by decide +kernel
theorem dX10_now_52 : decode cX10_now 52 = .ok (.aload_n 0, 1) := by decide +kernel
theorem dX10_now_53 : decode cX10_now 53 = .ok (.getfield 23, 3) := by decide +kernel
theorem dX10_now_56 : decode cX10_now 56 = .ok (.bipush 10, 2) := by decide +kernel
theorem dX10_now_58 : decode cX10_now 58 = .ok (.iaload, 1) := by decide +kernel
theorem dX10_now_59 : decode cX10_now 59 = .ok (.ireturn, 1) := by decide +kernel
theorem dX10_now_60 : decode cX10_now 60 = .ok (.aload_n 0, 1) := by decide +kernel
theorem dX10_now_61 : decode cX10_now 61 = .ok (.getfield 23, 3) := by decide +kernel
theorem dX10_now_64 : decode cX10_now 64 = .ok (.bipush 8, 2) := by decide +kernel
theorem dX10_now_66 : decode cX10_now 66 = .ok (.iaload, 1) := by decide +kernel
theorem dX10_now_67 : decode cX10_now 67 = .ok (.ireturn, 1) := by decide +kernel
theorem dX10_now_68 : decode cX10_now 68 = .ok (.aload_n 0, 1) := by decide +kernel
theorem dX10_now_69 : decode cX10_now 69 = .ok (.aload_n 0, 1) := by decide +kernel
theorem dX10_now_70 : decode cX10_now 70 = .ok (.getfield 23, 3) := by decide +kernel
theorem dX10_now_73 : decode cX10_now 73 = .ok (.bipush (-9), 2) := by decide +kernel
theorem dX10_now_75 : decode cX10_now 75 = .ok (.invokevirtual 175, 3) := by decide +kernel
theorem dX10_now_78 : decode cX10_now 78 = .ok (.ireturn, 1) := by decide +kernel
theorem dX10_now_79 : decode cX10_now 79 = .ok (.aload_n 0, 1) := by decide +kernel
theorem dX10_now_80 : decode cX10_now 80 = .ok (.invokevirtual 229, 3) := by decide +kernel
theorem dX10_now_83 : decode cX10_now 83 = .ok (.ireturn, 1) := by decide +kernel
theorem dX10_now_84 : decode cX10_now 84 = .ok (.aload_n 0, 1) := by decide +kernel
theorem dX10_now_85 : decode cX10_now 85 = .ok (.iconst 0, 1) := by decide +kernel
theorem dX10_now_86 : decode cX10_now 86 = .ok (.invokevirtual 232, 3) := by decide +kernel
theorem dX10_now_89 : decode cX10_now 89 = .ok (.ireturn, 1) := by decide +kernel
theorem dX10_now_90 : decode cX10_now 90 = .ok (.aload_n 0, 1) := by decide +kernel
theorem dX10_now_91 : decode cX10_now 91 = .ok (.iconst 1, 1) := by decide +kernel
theorem dX10_now_92 : decode cX10_now 92 = .ok (.invokevirtual 232, 3) := by decide +kernel
theorem dX10_now_95 : decode cX10_now 95 = .ok (.ireturn, 1) := by decide +kernel
theorem dX10_now_96 : decode cX10_now 96 = .ok (.iconst (-1), 1) := by decide +kernel
theorem dX10_now_97 : decode cX10_now 97 = .ok (.ireturn, 1) := by decide +kernel
theorem dX10_paint_0 : decode cX10_paint 0 = .ok (.iload_n 1, 1) := by decide +kernel
theorem dX10_paint_1 : decode cX10_paint 1 = .ok (.i2l, 1) := by decide +kernel
theorem dX10_paint_2 : decode cX10_paint 2 = .ok (.lconst 0, 1) := by decide +kernel
theorem dX10_paint_3 : decode cX10_paint 3 = .ok (.lconst 1, 1) := by decide +kernel
theorem dX10_paint_4 : decode cX10_paint 4 = .ok (.invokestatic 81, 3) := by decide +kernel
theorem dX10_paint_7 : decode cX10_paint 7 = .ok (.ifCond .ne 5, 3) := by decide +kernel
theorem dX10_paint_10 : decode cX10_paint 10 = .ok (.iconst (-1), 1) := by decide +kernel
theorem dX10_paint_11 : decode cX10_paint 11 = .ok (.ireturn, 1) := by decide +kernel
theorem dX10_paint_12 : decode cX10_paint 12 = .ok (.aload_n 0, 1) := by decide +kernel
theorem dX10_paint_13 : decode cX10_paint 13 = .ok (.invokevirtual 219, 3) := by decide +kernel
theorem dX10_paint_16 : decode cX10_paint 16 = .ok (.bipush (-9), 2) := by decide +kernel
theorem dX10_paint_18 : decode cX10_paint 18 = .ok (.istore_n 2, 1) := by decide +kernel
theorem dX10_paint_19 : decode cX10_paint 19 = .ok (.ldc 236, 2) := by decide +kernel
theorem dX10_paint_21 : decode cX10_paint 21 = .ok (.istore_n 3, 1) := by decide +kernel
theorem dX10_paint_22 : decode cX10_paint 22 = .ok (.iconst 0, 1) := by decide +kernel
theorem dX10_paint_23 : decode cX10_paint 23 = .ok (.istore 4, 2) := by decide +kernel
theorem dX10_paint_25 : decode cX10_paint 25 = .ok (.iload 4, 2) := by decide +kernel
theorem dX10_paint_27 : decode cX10_paint 27 = .ok (.aload_n 0, 1) := by decide +kernel
theorem dX10_paint_28 : decode cX10_paint 28 = .ok (.getfield 7, 3) := by decide +kernel
theorem dX10_paint_31 : decode cX10_paint 31 = .ok (.if_icmp .ge 129, 3) := by decide +kernel
theorem dX10_paint_34 : decode cX10_paint 34 = .ok (.iconst 0, 1) := by decide +kernel
theorem dX10_paint_35 : decode cX10_paint 35 = .ok (.istore 5, 2) := by decide +kernel
theorem dX10_paint_37 : decode cX10_paint 37 = .ok (.iload 5, 2) := by decide +kernel
theorem dX10_paint_39 : decode cX10_paint 39 = .ok (.aload_n 0, 1) := by decide +kernel
theorem dX10_paint_40 : decode cX10_paint 40 = .ok (.getfield 13, 3) := by decide +kernel
theorem dX10_paint_43 : decode cX10_paint 43 = .ok (.if_icmp .ge 111, 3) := by decide +kernel
theorem dX10_paint_46 : decode cX10_paint 46 = .ok (.iconst 4, 1) := by decide +kernel
theorem dX10_paint_47 : decode cX10_paint 47 = .ok (.iload 4, 2) := by decide +kernel
theorem dX10_paint_49 : decode cX10_paint 49 = .ok (.imul, 1) := by decide +kernel
theorem dX10_paint_50 : decode cX10_paint 50 = .ok (.iload 5, 2) := by decide +kernel
theorem dX10_paint_52 : decode cX10_paint 52 = .ok (.iadd, 1) := by decide +kernel
theorem dX10_paint_53 : decode cX10_paint 53 = .ok (.istore 6, 2) := by decide +kernel
theorem dX10_paint_55 : decode cX10_paint 55 = .ok (.aload_n 0, 1) := by decide +kernel
theorem dX10_paint_56 : decode cX10_paint 56 = .ok (.getfield 57, 3) := by decide +kernel
theorem dX10_paint_59 : decode cX10_paint 59 = .ok (.iload 6, 2) := by decide +kernel
theorem dX10_paint_61 : decode cX10_paint 61 = .ok (.iaload, 1) := by decide +kernel
theorem dX10_paint_62 : decode cX10_paint 62 = .ok (.istore 7, 2) := by decide +kernel
theorem dX10_paint_64 : decode cX10_paint 64 = .ok (.iconst 0, 1) := by decide +kernel
theorem dX10_paint_65 : decode cX10_paint 65 = .ok (.istore 8, 2) := by decide +kernel
theorem dX10_paint_67 : decode cX10_paint 67 = .ok (.iload 8, 2) := by decide +kernel
theorem dX10_paint_69 : decode cX10_paint 69 = .ok (.bipush 8, 2) := by decide +kernel
theorem dX10_paint_71 : decode cX10_paint 71 = .ok (.if_icmp .ge 68, 3) := by decide +kernel
theorem dX10_paint_74 : decode cX10_paint 74 = .ok (.aload_n 0, 1) := by decide +kernel
theorem dX10_paint_75 : decode cX10_paint 75 = .ok (.getfield 57, 3) := by decide +kernel
theorem dX10_paint_78 : decode cX10_paint 78 = .ok (.iload 6, 2) := by decide +kernel
theorem dX10_paint_80 : decode cX10_paint 80 = .ok (.iload 8, 2) := by decide +kernel
theorem dX10_paint_82 : decode cX10_paint 82 = .ok (.iastore, 1) := by decide +kernel
theorem dX10_paint_83 : decode cX10_paint 83 = .ok (.iload 8, 2) := by decide +kernel
theorem dX10_paint_85 : decode cX10_paint 85 = .ok (.iload 7, 2) := by decide +kernel
theorem dX10_paint_87 : decode cX10_paint 87 = .ok (.if_icmp .ne 8, 3) := by decide +kernel
theorem dX10_paint_90 : decode cX10_paint 90 = .ok (.ldc 236, 2) := by decide +kernel
theorem dX10_paint_92 : decode cX10_paint 92 = .ok (.goto 7, 3) := by decide +kernel
theorem dX10_paint_95 : decode cX10_paint 95 = .ok (.aload_n 0, 1) := by decide +kernel
theorem dX10_paint_96 : decode cX10_paint 96 = .ok (.invokevirtual 225, 3) := by decide +kernel
theorem dX10_paint_99 : decode cX10_paint 99 = .ok (.istore 9, 2) := by decide +kernel
theorem dX10_paint_101 : decode cX10_paint 101 = .ok (.iload 9, 2) := by decide +kernel
theorem dX10_paint_103 : decode cX10_paint 103 = .ok (.iload_n 3, 1) := by decide +kernel
theorem dX10_paint_104 : decode cX10_paint 104 = .ok (.if_icmp .ge 14, 3) := by decide +kernel
theorem dX10_paint_107 : decode cX10_paint 107 = .ok (.bipush 8, 2) := by decide +kernel
theorem dX10_paint_109 : decode cX10_paint 109 = .ok (.iload 6, 2) := by decide +kernel
theorem dX10_paint_111 : decode cX10_paint 111 = .ok (.imul, 1) := by decide +kernel
theorem dX10_paint_112 : decode cX10_paint 112 = .ok (.iload 8, 2) := by decide +kernel
theorem dX10_paint_114 : decode cX10_paint 114 = .ok (.iadd, 1) := by decide +kernel
theorem dX10_paint_115 : decode cX10_paint 115 = .ok (.goto 4, 3) := by decide +kernel
theorem dX10_paint_118 : decode cX10_paint 118 = .ok (.iload_n 2, 1) := by decide +kernel
theorem dX10_paint_119 : decode cX10_paint 119 = .ok (.istore_n 2, 1) := by decide +kernel
theorem dX10_paint_120 : decode cX10_paint 120 = .ok (.iload 9, 2) := by decide +kernel
theorem dX10_paint_122 : decode cX10_paint 122 = .ok (.iload_n 3, 1) := by decide +kernel
theorem dX10_paint_123 : decode cX10_paint 123 = .ok (.if_icmp .ge 8, 3) := by decide +kernel
theorem dX10_paint_126 : decode cX10_paint 126 = .ok (.iload 9, 2) := by decide +kernel
theorem dX10_paint_128 : decode cX10_paint 128 = .ok (.goto 4, 3) := by decide +kernel
theorem dX10_paint_131 : decode cX10_paint 131 = .ok (.iload_n 3, 1) := by decide +kernel
theorem dX10_paint_132 : decode cX10_paint 132 = .ok (.istore_n 3, 1) := by decide +kernel
theorem dX10_paint_133 : decode cX10_paint 133 = .ok (.iinc 8 1, 3) := by decide +kernel
theorem dX10_paint_136 : decode cX10_paint 136 = .ok (.goto (-69), 3) := by decide +kernel
theorem dX10_paint_139 : decode cX10_paint 139 = .ok (.aload_n 0, 1) := by decide +kernel
theorem dX10_paint_140 : decode cX10_paint 140 = .ok (.getfield 57, 3) := by decide +kernel
theorem dX10_paint_143 : decode cX10_paint 143 = .ok (.iload 6, 2) := by decide +kernel
theorem dX10_paint_145 : decode cX10_paint 145 = .ok (.iload 7, 2) := by decide +kernel
theorem dX10_paint_147 : decode cX10_paint 147 = .ok (.iastore, 1) := by decide +kernel
theorem dX10_paint_148 : decode cX10_paint 148 = .ok (.iinc 5 1, 3) := by decide +kernel
theorem dX10_paint_151 : decode cX10_paint 151 = .ok (.goto (-114), 3) := by decide +kernel
theorem dX10_paint_154 : decode cX10_paint 154 = .ok (.iinc 4 1, 3) := by decide +kernel
theorem dX10_paint_157 : decode cX10_paint 157 = .ok (.goto (-132), 3) := by decide +kernel
theorem dX10_paint_160 : decode cX10_paint 160 = .ok (.iload_n 1, 1) := by decide +kernel
theorem dX10_paint_161 : decode cX10_paint 161 = .ok (.ifCond .ne 7, 3) := by decide +kernel
theorem dX10_paint_164 : decode cX10_paint 164 = .ok (.iload_n 2, 1) := by decide +kernel
theorem dX10_paint_165 : decode cX10_paint 165 = .ok (.goto 4, 3) := by decide +kernel
theorem dX10_paint_168 : decode cX10_paint 168 = .ok (.iload_n 3, 1) := by decide +kernel
theorem dX10_paint_169 : decode cX10_paint 169 = .ok (.ireturn, 1) := by decide +kernel
theorem dX10_light_0 : decode cX10_light 0 = .ok (.iload_n 1, 1) := by decide +kernel
theorem dX10_light_1 : decode cX10_light 1 = .ok (.iload_n 2, 1) := by decide +kernel
theorem dX10_light_2 : decode cX10_light 2 = .ok (.invokestatic 237, 3) := by decide +kernel
theorem dX10_light_5 : decode cX10_light 5 = .ok (.ifCond .eq 24, 3) := by decide +kernel
theorem dX10_light_8 : decode cX10_light 8 = .ok (.iload_n 3, 1) := by decide +kernel
theorem dX10_light_9 : decode cX10_light 9 = .ok (.invokestatic 240, 3) := by decide +kernel
theorem dX10_light_12 : decode cX10_light 12 = .ok (.ifCond .eq 17, 3) := by decide +kernel
theorem dX10_light_15 : decode cX10_light 15 = .ok (.aload_n 0, 1) := by decide +kernel
theorem dX10_light_16 : decode cX10_light 16 = .ok (.aload_n 0, 1) := by decide +kernel
theorem dX10_light_17 : decode cX10_light 17 = .ok (.getfield 23, 3) := by decide +kernel
theorem dX10_light_20 : decode cX10_light 20 = .ok (.iload_n 1, 1) := by decide +kernel
theorem dX10_light_21 : decode cX10_light 21 = .ok (.iload_n 2, 1) := by decide +kernel
theorem dX10_light_22 : decode cX10_light 22 = .ok (.iload_n 3, 1) := by decide +kernel
theorem dX10_light_23 : decode cX10_light 23 = .ok (.invokevirtual 193, 3) := by decide +kernel
theorem dX10_light_26 : decode cX10_light 26 = .ok (.goto 4, 3) := by decide +kernel
theorem dX10_light_29 : decode cX10_light 29 = .ok (.iconst (-1), 1) := by decide +kernel
theorem dX10_light_30 : decode cX10_light 30 = .ok (.ireturn, 1) := by decide +kernel
theorem dX10_lit_0 : decode cX10_lit 0 = .ok (.iload_n 1, 1) := by decide +kernel
theorem dX10_lit_1 : decode cX10_lit 1 = .ok (.invokestatic 243, 3) := by decide +kernel
theorem dX10_lit_4 : decode cX10_lit 4 = .ok (.ifCond .eq 20, 3) := by decide +kernel
theorem dX10_lit_7 : decode cX10_lit 7 = .ok (.iload_n 2, 1) := by decide +kernel
theorem dX10_lit_8 : decode cX10_lit 8 = .ok (.invokestatic 240, 3) := by decide +kernel
theorem dX10_lit_11 : decode cX10_lit 11 = .ok (.ifCond .eq 13, 3) := by decide +kernel
theorem dX10_lit_14 : decode cX10_lit 14 = .ok (.iload_n 3, 1) := by decide +kernel
theorem dX10_lit_15 : decode cX10_lit 15 = .ok (.i2l, 1) := by decide +kernel
theorem dX10_lit_16 : decode cX10_lit 16 = .ok (.lconst 0, 1) := by decide +kernel
theorem dX10_lit_17 : decode cX10_lit 17 = .ok (.lconst 1, 1) := by decide +kernel
theorem dX10_lit_18 : decode cX10_lit 18 = .ok (.invokestatic 81, 3) := by decide +kernel
theorem dX10_lit_21 : decode cX10_lit 21 = .ok (.ifCond .ne 5, 3) := by decide +kernel
theorem dX10_lit_24 : decode cX10_lit 24 = .ok (.iconst (-1), 1) := by decide +kernel
theorem dX10_lit_25 : decode cX10_lit 25 = .ok (.ireturn, 1) := by decide +kernel
theorem dX10_lit_26 : decode cX10_lit 26 = .ok (.iconst 0, 1) := by decide +kernel
theorem dX10_lit_27 : decode cX10_lit 27 = .ok (.istore 4, 2) := by decide +kernel
theorem dX10_lit_29 : decode cX10_lit 29 = .ok (.bipush (-9), 2) := by decide +kernel
theorem dX10_lit_31 : decode cX10_lit 31 = .ok (.istore 5, 2) := by decide +kernel
theorem dX10_lit_33 : decode cX10_lit 33 = .ok (.bipush 83, 2) := by decide +kernel
theorem dX10_lit_35 : decode cX10_lit 35 = .ok (.istore 6, 2) := by decide +kernel
theorem dX10_lit_37 : decode cX10_lit 37 = .ok (.iload 6, 2) := by decide +kernel
theorem dX10_lit_39 : decode cX10_lit 39 = .ok (.ifCond .lt 56, 3) := by decide +kernel
theorem dX10_lit_42 : decode cX10_lit 42 = .ok (.aload_n 0, 1) := by decide +kernel
theorem dX10_lit_43 : decode cX10_lit 43 = .ok (.iload 6, 2) := by decide +kernel
theorem dX10_lit_45 : decode cX10_lit 45 = .ok (.iload_n 2, 1) := by decide +kernel
theorem dX10_lit_46 : decode cX10_lit 46 = .ok (.invokevirtual 246, 3) := by decide +kernel
theorem dX10_lit_49 : decode cX10_lit 49 = .ok (.iload_n 1, 1) := by decide +kernel
theorem dX10_lit_50 : decode cX10_lit 50 = .ok (.if_icmp .ne 7, 3) := by decide +kernel
theorem dX10_lit_53 : decode cX10_lit 53 = .ok (.iconst 1, 1) := by decide +kernel
theorem dX10_lit_54 : decode cX10_lit 54 = .ok (.goto 4, 3) := by decide +kernel
theorem dX10_lit_57 : decode cX10_lit 57 = .ok (.iconst 0, 1) := by decide +kernel
theorem dX10_lit_58 : decode cX10_lit 58 = .ok (.istore 7, 2) := by decide +kernel
theorem dX10_lit_60 : decode cX10_lit 60 = .ok (.iload 4, 2) := by decide +kernel
theorem dX10_lit_62 : decode cX10_lit 62 = .ok (.iload 7, 2) := by decide +kernel
theorem dX10_lit_64 : decode cX10_lit 64 = .ok (.ifCond .eq 7, 3) := by decide +kernel
theorem dX10_lit_67 : decode cX10_lit 67 = .ok (.iconst 1, 1) := by decide +kernel
theorem dX10_lit_68 : decode cX10_lit 68 = .ok (.goto 4, 3) := by decide +kernel
theorem dX10_lit_71 : decode cX10_lit 71 = .ok (.iconst 0, 1) := by decide +kernel
theorem dX10_lit_72 : decode cX10_lit 72 = .ok (.iadd, 1) := by decide +kernel
theorem dX10_lit_73 : decode cX10_lit 73 = .ok (.istore 4, 2) := by decide +kernel
theorem dX10_lit_75 : decode cX10_lit 75 = .ok (.iload 7, 2) := by decide +kernel
theorem dX10_lit_77 : decode cX10_lit 77 = .ok (.ifCond .eq 8, 3) := by decide +kernel
theorem dX10_lit_80 : decode cX10_lit 80 = .ok (.iload 6, 2) := by decide +kernel
theorem dX10_lit_82 : decode cX10_lit 82 = .ok (.goto 5, 3) := by decide +kernel
theorem dX10_lit_85 : decode cX10_lit 85 = .ok (.iload 5, 2) := by decide +kernel
theorem dX10_lit_87 : decode cX10_lit 87 = .ok (.istore 5, 2) := by decide +kernel
theorem dX10_lit_89 : decode cX10_lit 89 = .ok (.iinc 6 (-1), 3) := by decide +kernel
theorem dX10_lit_92 : decode cX10_lit 92 = .ok (.goto (-55), 3) := by decide +kernel
theorem dX10_lit_95 : decode cX10_lit 95 = .ok (.iload_n 3, 1) := by decide +kernel
theorem dX10_lit_96 : decode cX10_lit 96 = .ok (.ifCond .ne 8, 3) := by decide +kernel
theorem dX10_lit_99 : decode cX10_lit 99 = .ok (.iload 4, 2) := by decide +kernel
theorem dX10_lit_101 : decode cX10_lit 101 = .ok (.goto 5, 3) := by decide +kernel
theorem dX10_lit_104 : decode cX10_lit 104 = .ok (.iload 5, 2) := by decide +kernel
theorem dX10_lit_106 : decode cX10_lit 106 = .ok (.ireturn, 1) := by decide +kernel
theorem dX10_when_0 : decode cX10_when 0 = .ok (.iload_n 1, 1) := by decide +kernel
theorem dX10_when_1 : decode cX10_when 1 = .ok (.iload_n 2, 1) := by decide +kernel
theorem dX10_when_2 : decode cX10_when 2 = .ok (.invokestatic 237, 3) := by decide +kernel
theorem dX10_when_5 : decode cX10_when 5 = .ok (.ifCond .eq 10, 3) := by decide +kernel
theorem dX10_when_8 : decode cX10_when 8 = .ok (.iload_n 3, 1) := by decide +kernel
theorem dX10_when_9 : decode cX10_when 9 = .ok (.invokestatic 243, 3) := by decide +kernel
theorem dX10_when_12 : decode cX10_when 12 = .ok (.ifCond .ne 5, 3) := by decide +kernel
theorem dX10_when_15 : decode cX10_when 15 = .ok (.iconst (-1), 1) := by decide +kernel
theorem dX10_when_16 : decode cX10_when 16 = .ok (.ireturn, 1) := by decide +kernel
theorem dX10_when_17 : decode cX10_when 17 = .ok (.iconst 0, 1) := by decide +kernel
theorem dX10_when_18 : decode cX10_when 18 = .ok (.istore 4, 2) := by decide +kernel
theorem dX10_when_20 : decode cX10_when 20 = .ok (.iload 4, 2) := by decide +kernel
theorem dX10_when_22 : decode cX10_when 22 = .ok (.bipush 8, 2) := by decide +kernel
theorem dX10_when_24 : decode cX10_when 24 = .ok (.if_icmp .ge 28, 3) := by decide +kernel
theorem dX10_when_27 : decode cX10_when 27 = .ok (.aload_n 0, 1) := by decide +kernel
theorem dX10_when_28 : decode cX10_when 28 = .ok (.aload_n 0, 1) := by decide +kernel
theorem dX10_when_29 : decode cX10_when 29 = .ok (.getfield 23, 3) := by decide +kernel
theorem dX10_when_32 : decode cX10_when 32 = .ok (.iload_n 1, 1) := by decide +kernel
theorem dX10_when_33 : decode cX10_when 33 = .ok (.iload_n 2, 1) := by decide +kernel
theorem dX10_when_34 : decode cX10_when 34 = .ok (.iload 4, 2) := by decide +kernel
theorem dX10_when_36 : decode cX10_when 36 = .ok (.invokevirtual 193, 3) := by decide +kernel
theorem dX10_when_39 : decode cX10_when 39 = .ok (.iload_n 3, 1) := by decide +kernel
theorem dX10_when_40 : decode cX10_when 40 = .ok (.if_icmp .ne 6, 3) := by decide +kernel
theorem dX10_when_43 : decode cX10_when 43 = .ok (.iload 4, 2) := by decide +kernel
theorem dX10_when_45 : decode cX10_when 45 = .ok (.ireturn, 1) := by decide +kernel
theorem dX10_when_46 : decode cX10_when 46 = .ok (.iinc 4 1, 3) := by decide +kernel
theorem dX10_when_49 : decode cX10_when 49 = .ok (.goto (-29), 3) := by decide +kernel
theorem dX10_when_52 : decode cX10_when 52 = .ok (.bipush (-9), 2) := by decide +kernel
theorem dX10_when_54 : decode cX10_when 54 = .ok (.ireturn, 1) := by decide +kernel
theorem dX10_free_0 : decode cX10_free 0 = .ok (.iload_n 1, 1) := by decide +kernel
theorem dX10_free_1 : decode cX10_free 1 = .ok (.bipush (-9), 2) := by decide +kernel
theorem dX10_free_3 : decode cX10_free 3 = .ok (.if_icmp .eq 17, 3) := by decide +kernel
theorem dX10_free_6 : decode cX10_free 6 = .ok (.aload_n 0, 1) := by decide +kernel
theorem dX10_free_7 : decode cX10_free 7 = .ok (.getfield 23, 3) := by decide +kernel
theorem dX10_free_10 : decode cX10_free 10 = .ok (.bipush 8, 2) := by decide +kernel
theorem dX10_free_12 : decode cX10_free 12 = .ok (.iaload, 1) := by decide +kernel
theorem dX10_free_13 : decode cX10_free 13 = .ok (.iload_n 1, 1) := by decide +kernel
theorem dX10_free_14 : decode cX10_free 14 = .ok (.invokestatic 172, 3) := by decide +kernel
theorem dX10_free_17 : decode cX10_free 17 = .ok (.ifCond .eq 7, 3) := by decide +kernel
theorem dX10_free_20 : decode cX10_free 20 = .ok (.iconst 0, 1) := by decide +kernel
theorem dX10_free_21 : decode cX10_free 21 = .ok (.goto 17, 3) := by decide +kernel
theorem dX10_free_24 : decode cX10_free 24 = .ok (.iconst 3, 1) := by decide +kernel
theorem dX10_free_25 : decode cX10_free 25 = .ok (.aload_n 0, 1) := by decide +kernel
theorem dX10_free_26 : decode cX10_free 26 = .ok (.aload_n 0, 1) := by decide +kernel
theorem dX10_free_27 : decode cX10_free 27 = .ok (.getfield 23, 3) := by decide +kernel
theorem dX10_free_30 : decode cX10_free 30 = .ok (.iload_n 1, 1) := by decide +kernel
theorem dX10_free_31 : decode cX10_free 31 = .ok (.invokevirtual 175, 3) := by decide +kernel
theorem dX10_free_34 : decode cX10_free 34 = .ok (.invokestatic 201, 3) := by decide +kernel
theorem dX10_free_37 : decode cX10_free 37 = .ok (.isub, 1) := by decide +kernel
theorem dX10_free_38 : decode cX10_free 38 = .ok (.ireturn, 1) := by decide +kernel
theorem dX10_letsNow_0 : decode cX10_letsNow 0 = .ok (.iload_n 1, 1) := by decide +kernel
theorem dX10_letsNow_1 : decode cX10_letsNow 1 = .ok (.bipush (-9), 2) := by decide +kernel
theorem dX10_letsNow_3 : decode cX10_letsNow 3 = .ok (.if_icmp .ne 7, 3) := by decide +kernel
theorem dX10_letsNow_6 : decode cX10_letsNow 6 = .ok (.iconst 0, 1) := by decide +kernel
theorem dX10_letsNow_7 : decode cX10_letsNow 7 = .ok (.goto 12, 3) := by decide +kernel
theorem dX10_letsNow_10 : decode cX10_letsNow 10 = .ok (.aload_n 0, 1) := by decide +kernel
theorem dX10_letsNow_11 : decode cX10_letsNow 11 = .ok (.aload_n 0, 1) := by decide +kernel
theorem dX10_letsNow_12 : decode cX10_letsNow 12 = .ok (.getfield 23, 3) := by decide +kernel
theorem dX10_letsNow_15 : decode cX10_letsNow 15 = .ok (.iload_n 1, 1) := by decide +kernel
theorem dX10_letsNow_16 : decode cX10_letsNow 16 = .ok (.invokevirtual 190, 3) := by decide +kernel
theorem dX10_letsNow_19 : decode cX10_letsNow 19 = .ok (.ireturn, 1) := by decide +kernel
theorem dX10_mix_0 : decode cX10_mix 0 = .ok (.iload_n 1, 1) := by decide +kernel
theorem dX10_mix_1 : decode cX10_mix 1 = .ok (.iload_n 2, 1) := by decide +kernel
theorem dX10_mix_2 : decode cX10_mix 2 = .ok (.invokestatic 237, 3) := by decide +kernel
theorem dX10_mix_5 : decode cX10_mix 5 = .ok (.ifCond .eq 31, 3) := by decide +kernel
theorem dX10_mix_8 : decode cX10_mix 8 = .ok (.iload_n 3, 1) := by decide +kernel
theorem dX10_mix_9 : decode cX10_mix 9 = .ok (.invokestatic 240, 3) := by decide +kernel
theorem dX10_mix_12 : decode cX10_mix 12 = .ok (.ifCond .eq 24, 3) := by decide +kernel
theorem dX10_mix_15 : decode cX10_mix 15 = .ok (.iload 4, 2) := by decide +kernel
theorem dX10_mix_17 : decode cX10_mix 17 = .ok (.invokestatic 243, 3) := by decide +kernel
theorem dX10_mix_20 : decode cX10_mix 20 = .ok (.ifCond .eq 16, 3) := by decide +kernel
theorem dX10_mix_23 : decode cX10_mix 23 = .ok (.iload 5, 2) := by decide +kernel
theorem dX10_mix_25 : decode cX10_mix 25 = .ok (.i2l, 1) := by decide +kernel
theorem dX10_mix_26 : decode cX10_mix 26 = .ok (.lconst 0, 1) := by decide +kernel
theorem dX10_mix_27 : decode cX10_mix 27 = .ok (.ldc2_w 250, 3) := by decide +kernel
theorem dX10_mix_30 : decode cX10_mix 30 = .ok (.invokestatic 81, 3) := by decide +kernel
theorem dX10_mix_33 : decode cX10_mix 33 = .ok (.ifCond .ne 5, 3) := by decide +kernel
theorem dX10_mix_36 : decode cX10_mix 36 = .ok (.iconst (-1), 1) := by decide +kernel
theorem dX10_mix_37 : decode cX10_mix 37 = .ok (.ireturn, 1) := by decide +kernel
theorem dX10_mix_38 : decode cX10_mix 38 = .ok (.aload_n 0, 1) := by decide +kernel
theorem dX10_mix_39 : decode cX10_mix 39 = .ok (.aload_n 0, 1) := by decide +kernel
theorem dX10_mix_40 : decode cX10_mix 40 = .ok (.getfield 23, 3) := by decide +kernel
theorem dX10_mix_43 : decode cX10_mix 43 = .ok (.iload_n 1, 1) := by decide +kernel
theorem dX10_mix_44 : decode cX10_mix 44 = .ok (.iload_n 2, 1) := by decide +kernel
theorem dX10_mix_45 : decode cX10_mix 45 = .ok (.iload_n 3, 1) := by decide +kernel
theorem dX10_mix_46 : decode cX10_mix 46 = .ok (.iconst 0, 1) := by decide +kernel
theorem dX10_mix_47 : decode cX10_mix 47 = .ok (.invokevirtual 186, 3) := by decide +kernel
theorem dX10_mix_50 : decode cX10_mix 50 = .ok (.istore 6, 2) := by decide +kernel
theorem dX10_mix_52 : decode cX10_mix 52 = .ok (.aload_n 0, 1) := by decide +kernel
theorem dX10_mix_53 : decode cX10_mix 53 = .ok (.aload_n 0, 1) := by decide +kernel
theorem dX10_mix_54 : decode cX10_mix 54 = .ok (.getfield 23, 3) := by decide +kernel
theorem dX10_mix_57 : decode cX10_mix 57 = .ok (.iload_n 1, 1) := by decide +kernel
theorem dX10_mix_58 : decode cX10_mix 58 = .ok (.iload_n 2, 1) := by decide +kernel
theorem dX10_mix_59 : decode cX10_mix 59 = .ok (.iload_n 3, 1) := by decide +kernel
theorem dX10_mix_60 : decode cX10_mix 60 = .ok (.iconst 1, 1) := by decide +kernel
theorem dX10_mix_61 : decode cX10_mix 61 = .ok (.invokevirtual 186, 3) := by decide +kernel
theorem dX10_mix_64 : decode cX10_mix 64 = .ok (.istore 7, 2) := by decide +kernel
theorem dX10_mix_66 : decode cX10_mix 66 = .ok (.aload_n 0, 1) := by decide +kernel
theorem dX10_mix_67 : decode cX10_mix 67 = .ok (.aload_n 0, 1) := by decide +kernel
theorem dX10_mix_68 : decode cX10_mix 68 = .ok (.getfield 23, 3) := by decide +kernel
theorem dX10_mix_71 : decode cX10_mix 71 = .ok (.bipush (-9), 2) := by decide +kernel
theorem dX10_mix_73 : decode cX10_mix 73 = .ok (.invokevirtual 175, 3) := by decide +kernel
theorem dX10_mix_76 : decode cX10_mix 76 = .ok (.istore 8, 2) := by decide +kernel
theorem dX10_mix_78 : decode cX10_mix 78 = .ok (.ldc 236, 2) := by decide +kernel
theorem dX10_mix_80 : decode cX10_mix 80 = .ok (.istore 9, 2) := by decide +kernel
theorem dX10_mix_82 : decode cX10_mix 82 = .ok (.iconst 0, 1) := by decide +kernel
theorem dX10_mix_83 : decode cX10_mix 83 = .ok (.istore 10, 2) := by decide +kernel
theorem dX10_mix_85 : decode cX10_mix 85 = .ok (.iconst 0, 1) := by decide +kernel
theorem dX10_mix_86 : decode cX10_mix 86 = .ok (.istore 11, 2) := by decide +kernel
theorem dX10_mix_88 : decode cX10_mix 88 = .ok (.iconst 0, 1) := by decide +kernel
theorem dX10_mix_89 : decode cX10_mix 89 = .ok (.istore 12, 2) := by decide +kernel
theorem dX10_mix_91 : decode cX10_mix 91 = .ok (.iload 12, 2) := by decide +kernel
theorem dX10_mix_93 : decode cX10_mix 93 = .ok (.iconst 1, 1) := by decide +kernel
theorem dX10_mix_94 : decode cX10_mix 94 = .ok (.aload_n 0, 1) := by decide +kernel
theorem dX10_mix_95 : decode cX10_mix 95 = .ok (.getfield 159, 3) := by decide +kernel
theorem dX10_mix_98 : decode cX10_mix 98 = .ok (.ishl, 1) := by decide +kernel
theorem dX10_mix_99 : decode cX10_mix 99 = .ok (.if_icmp .ge 164, 3) := by decide +kernel
theorem dX10_mix_102 : decode cX10_mix 102 = .ok (.iload 12, 2) := by decide +kernel
theorem dX10_mix_104 : decode cX10_mix 104 = .ok (.iload 8, 2) := by decide +kernel
theorem dX10_mix_106 : decode cX10_mix 106 = .ok (.iconst (-1), 1) := by decide +kernel
theorem dX10_mix_107 : decode cX10_mix 107 = .ok (.ixor, 1) := by decide +kernel
theorem dX10_mix_108 : decode cX10_mix 108 = .ok (.iand, 1) := by decide +kernel
theorem dX10_mix_109 : decode cX10_mix 109 = .ok (.ifCond .ne 148, 3) := by decide +kernel
theorem dX10_mix_112 : decode cX10_mix 112 = .ok (.iload 12, 2) := by decide +kernel
theorem dX10_mix_114 : decode cX10_mix 114 = .ok (.invokestatic 201, 3) := by decide +kernel
theorem dX10_mix_117 : decode cX10_mix 117 = .ok (.aload_n 0, 1) := by decide +kernel
theorem dX10_mix_118 : decode cX10_mix 118 = .ok (.iload 6, 2) := by decide +kernel
theorem dX10_mix_120 : decode cX10_mix 120 = .ok (.invokevirtual 252, 3) := by decide +kernel
theorem dX10_mix_123 : decode cX10_mix 123 = .ok (.if_icmp .le 6, 3) := by decide +kernel
theorem dX10_mix_126 : decode cX10_mix 126 = .ok (.goto 131, 3) := by decide +kernel
theorem dX10_mix_129 : decode cX10_mix 129 = .ok (.iconst 0, 1) := by decide +kernel
theorem dX10_mix_130 : decode cX10_mix 130 = .ok (.istore 13, 2) := by decide +kernel
theorem dX10_mix_132 : decode cX10_mix 132 = .ok (.iload 13, 2) := by decide +kernel
theorem dX10_mix_134 : decode cX10_mix 134 = .ok (.iconst 1, 1) := by decide +kernel
theorem dX10_mix_135 : decode cX10_mix 135 = .ok (.aload_n 0, 1) := by decide +kernel
theorem dX10_mix_136 : decode cX10_mix 136 = .ok (.getfield 159, 3) := by decide +kernel
theorem dX10_mix_139 : decode cX10_mix 139 = .ok (.ishl, 1) := by decide +kernel
theorem dX10_mix_140 : decode cX10_mix 140 = .ok (.if_icmp .ge 117, 3) := by decide +kernel
theorem dX10_mix_143 : decode cX10_mix 143 = .ok (.iload 13, 2) := by decide +kernel
theorem dX10_mix_145 : decode cX10_mix 145 = .ok (.iload 12, 2) := by decide +kernel
theorem dX10_mix_147 : decode cX10_mix 147 = .ok (.iload 8, 2) := by decide +kernel
theorem dX10_mix_149 : decode cX10_mix 149 = .ok (.iconst (-1), 1) := by decide +kernel
theorem dX10_mix_150 : decode cX10_mix 150 = .ok (.ixor, 1) := by decide +kernel
theorem dX10_mix_151 : decode cX10_mix 151 = .ok (.ior, 1) := by decide +kernel
theorem dX10_mix_152 : decode cX10_mix 152 = .ok (.iand, 1) := by decide +kernel
theorem dX10_mix_153 : decode cX10_mix 153 = .ok (.ifCond .ne 37, 3) := by decide +kernel
theorem dX10_mix_156 : decode cX10_mix 156 = .ok (.iload 13, 2) := by decide +kernel
theorem dX10_mix_158 : decode cX10_mix 158 = .ok (.invokestatic 201, 3) := by decide +kernel
theorem dX10_mix_161 : decode cX10_mix 161 = .ok (.aload_n 0, 1) := by decide +kernel
theorem dX10_mix_162 : decode cX10_mix 162 = .ok (.iload 7, 2) := by decide +kernel
theorem dX10_mix_164 : decode cX10_mix 164 = .ok (.invokevirtual 252, 3) := by decide +kernel
theorem dX10_mix_167 : decode cX10_mix 167 = .ok (.if_icmp .gt 23, 3) := by decide +kernel
theorem dX10_mix_170 : decode cX10_mix 170 = .ok (.iload 12, 2) := by decide +kernel
theorem dX10_mix_172 : decode cX10_mix 172 = .ok (.invokestatic 201, 3) := by decide +kernel
theorem dX10_mix_175 : decode cX10_mix 175 = .ok (.iload 13, 2) := by decide +kernel
theorem dX10_mix_177 : decode cX10_mix 177 = .ok (.invokestatic 201, 3) := by decide +kernel
theorem dX10_mix_180 : decode cX10_mix 180 = .ok (.iadd, 1) := by decide +kernel
theorem dX10_mix_181 : decode cX10_mix 181 = .ok (.iload 9, 2) := by decide +kernel
theorem dX10_mix_183 : decode cX10_mix 183 = .ok (.if_icmp .ge 7, 3) := by decide +kernel
theorem dX10_mix_186 : decode cX10_mix 186 = .ok (.iconst 1, 1) := by decide +kernel
theorem dX10_mix_187 : decode cX10_mix 187 = .ok (.goto 4, 3) := by decide +kernel
theorem dX10_mix_190 : decode cX10_mix 190 = .ok (.iconst 0, 1) := by decide +kernel
theorem dX10_mix_191 : decode cX10_mix 191 = .ok (.istore 14, 2) := by decide +kernel
theorem dX10_mix_193 : decode cX10_mix 193 = .ok (.iload 14, 2) := by decide +kernel
theorem dX10_mix_195 : decode cX10_mix 195 = .ok (.ifCond .eq 56, 3) := by decide +kernel
theorem dX10_mix_198 : decode cX10_mix 198 = .ok (.aload_n 0, 1) := by decide +kernel
theorem dX10_mix_199 : decode cX10_mix 199 = .ok (.iload 6, 2) := by decide +kernel
theorem dX10_mix_201 : decode cX10_mix 201 = .ok (.invokevirtual 255, 3) := by decide +kernel
theorem dX10_mix_204 : decode cX10_mix 204 = .ok (.aload_n 0, 1) := by decide +kernel
theorem dX10_mix_205 : decode cX10_mix 205 = .ok (.iload 12, 2) := by decide +kernel
theorem dX10_mix_207 : decode cX10_mix 207 = .ok (.invokevirtual 179, 3) := by decide +kernel
theorem dX10_mix_210 : decode cX10_mix 210 = .ok (.iand, 1) := by decide +kernel
theorem dX10_mix_211 : decode cX10_mix 211 = .ok (.aload_n 0, 1) := by decide +kernel
theorem dX10_mix_212 : decode cX10_mix 212 = .ok (.iload 7, 2) := by decide +kernel
theorem dX10_mix_214 : decode cX10_mix 214 = .ok (.invokevirtual 255, 3) := by decide +kernel
theorem dX10_mix_217 : decode cX10_mix 217 = .ok (.aload_n 0, 1) := by decide +kernel
theorem dX10_mix_218 : decode cX10_mix 218 = .ok (.iload 13, 2) := by decide +kernel
theorem dX10_mix_220 : decode cX10_mix 220 = .ok (.invokevirtual 179, 3) := by decide +kernel
theorem dX10_mix_223 : decode cX10_mix 223 = .ok (.iand, 1) := by decide +kernel
theorem dX10_mix_224 : decode cX10_mix 224 = .ok (.ior, 1) := by decide +kernel
theorem dX10_mix_225 : decode cX10_mix 225 = .ok (.iload 4, 2) := by decide +kernel
theorem dX10_mix_227 : decode cX10_mix 227 = .ok (.if_icmp .ne 24, 3) := by decide +kernel
theorem dX10_mix_230 : decode cX10_mix 230 = .ok (.iload 12, 2) := by decide +kernel
theorem dX10_mix_232 : decode cX10_mix 232 = .ok (.invokestatic 201, 3) := by decide +kernel
theorem dX10_mix_235 : decode cX10_mix 235 = .ok (.iload 13, 2) := by decide +kernel
theorem dX10_mix_237 : decode cX10_mix 237 = .ok (.invokestatic 201, 3) := by decide +kernel
theorem dX10_mix_240 : decode cX10_mix 240 = .ok (.iadd, 1) := by decide +kernel
theorem dX10_mix_241 : decode cX10_mix 241 = .ok (.istore 9, 2) := by decide +kernel
theorem dX10_mix_243 : decode cX10_mix 243 = .ok (.iload 12, 2) := by decide +kernel
theorem dX10_mix_245 : decode cX10_mix 245 = .ok (.istore 10, 2) := by decide +kernel
theorem dX10_mix_247 : decode cX10_mix 247 = .ok (.iload 13, 2) := by decide +kernel
theorem dX10_mix_249 : decode cX10_mix 249 = .ok (.istore 11, 2) := by decide +kernel
theorem dX10_mix_251 : decode cX10_mix 251 = .ok (.iinc 13 1, 3) := by decide +kernel
theorem dX10_mix_254 : decode cX10_mix 254 = .ok (.goto (-122), 3) := by decide +kernel
theorem dX10_mix_257 : decode cX10_mix 257 = .ok (.iinc 12 1, 3) := by decide +kernel
theorem dX10_mix_260 : decode cX10_mix 260 = .ok (.goto (-169), 3) := by decide +kernel
theorem dX10_mix_263 : decode cX10_mix 263 = .ok (.iload 9, 2) := by decide +kernel
theorem dX10_mix_265 : decode cX10_mix 265 = .ok (.ldc 236, 2) := by decide +kernel
theorem dX10_mix_267 : decode cX10_mix 267 = .ok (.if_icmp .ne 8, 3) := by decide +kernel
theorem dX10_mix_270 : decode cX10_mix 270 = .ok (.bipush (-9), 2) := by decide +kernel
theorem dX10_mix_272 : decode cX10_mix 272 = .ok (.goto 26, 3) := by decide +kernel
theorem dX10_mix_275 : decode cX10_mix 275 = .ok (.iload 5, 2) := by decide +kernel
theorem dX10_mix_277 : decode cX10_mix 277 = .ok (.ifCond .ne 8, 3) := by decide +kernel
theorem dX10_mix_280 : decode cX10_mix 280 = .ok (.iload 9, 2) := by decide +kernel
theorem dX10_mix_282 : decode cX10_mix 282 = .ok (.goto 16, 3) := by decide +kernel
theorem dX10_mix_285 : decode cX10_mix 285 = .ok (.iload 5, 2) := by decide +kernel
theorem dX10_mix_287 : decode cX10_mix 287 = .ok (.iconst 1, 1) := by decide +kernel
theorem dX10_mix_288 : decode cX10_mix 288 = .ok (.if_icmp .ne 8, 3) := by decide +kernel
theorem dX10_mix_291 : decode cX10_mix 291 = .ok (.iload 10, 2) := by decide +kernel
theorem dX10_mix_293 : decode cX10_mix 293 = .ok (.goto 5, 3) := by decide +kernel
theorem dX10_mix_296 : decode cX10_mix 296 = .ok (.iload 11, 2) := by decide +kernel
theorem dX10_mix_298 : decode cX10_mix 298 = .ok (.ireturn, 1) := by decide +kernel
theorem dX10_layHours_0 : decode cX10_layHours 0 = .ok (.iconst 0, 1) := by decide +kernel
theorem dX10_layHours_1 : decode cX10_layHours 1 = .ok (.istore_n 2, 1) := by decide +kernel
theorem dX10_layHours_2 : decode cX10_layHours 2 = .ok (.iload_n 2, 1) := by decide +kernel
theorem dX10_layHours_3 : decode cX10_layHours 3 = .ok (.bipush 84, 2) := by decide +kernel
theorem dX10_layHours_5 : decode cX10_layHours 5 = .ok (.if_icmp .ge 22, 3) := by decide +kernel
theorem dX10_layHours_8 : decode cX10_layHours 8 = .ok (.aload_n 0, 1) := by decide +kernel
theorem dX10_layHours_9 : decode cX10_layHours 9 = .ok (.getfield 63, 3) := by decide +kernel
theorem dX10_layHours_12 : decode cX10_layHours 12 = .ok (.bipush 9, 2) := by decide +kernel
theorem dX10_layHours_14 : decode cX10_layHours 14 = .ok (.iload_n 2, 1) := by decide +kernel
theorem dX10_layHours_15 : decode cX10_layHours 15 = .ok (.imul, 1) := by decide +kernel
theorem dX10_layHours_16 : decode cX10_layHours 16 = .ok (.bipush 8, 2) := by decide +kernel
theorem dX10_layHours_18 : decode cX10_layHours 18 = .ok (.iadd, 1) := by decide +kernel
theorem dX10_layHours_19 : decode cX10_layHours 19 = .ok (.iconst 0, 1) := by decide +kernel
theorem dX10_layHours_20 : decode cX10_layHours 20 = .ok (.iastore, 1) := by decide +kernel
theorem dX10_layHours_21 : decode cX10_layHours 21 = .ok (.iinc 2 1, 3) := by decide +kernel
theorem dX10_layHours_24 : decode cX10_layHours 24 = .ok (.goto (-22), 3) := by decide +kernel
theorem dX10_layHours_27 : decode cX10_layHours 27 = .ok (.bipush 7, 2) := by decide +kernel
theorem dX10_layHours_29 : decode cX10_layHours 29 = .ok (.istore_n 2, 1) := by decide +kernel
theorem dX10_layHours_30 : decode cX10_layHours 30 = .ok (.iload_n 2, 1) := by decide +kernel
theorem dX10_layHours_31 : decode cX10_layHours 31 = .ok (.ifCond .lt 82, 3) := by decide +kernel
theorem dX10_layHours_34 : decode cX10_layHours 34 = .ok (.iconst 0, 1) := by decide +kernel
theorem dX10_layHours_35 : decode cX10_layHours 35 = .ok (.istore_n 3, 1) := by decide +kernel
theorem dX10_layHours_36 : decode cX10_layHours 36 = .ok (.iload_n 3, 1) := by decide +kernel
theorem dX10_layHours_37 : decode cX10_layHours 37 = .ok (.bipush 84, 2) := by decide +kernel
theorem dX10_layHours_39 : decode cX10_layHours 39 = .ok (.if_icmp .ge 68, 3) := by decide +kernel
theorem dX10_layHours_42 : decode cX10_layHours 42 = .ok (.aload_n 0, 1) := by decide +kernel
theorem dX10_layHours_43 : decode cX10_layHours 43 = .ok (.iload_n 3, 1) := by decide +kernel
theorem dX10_layHours_44 : decode cX10_layHours 44 = .ok (.iload_n 2, 1) := by decide +kernel
theorem dX10_layHours_45 : decode cX10_layHours 45 = .ok (.invokevirtual 246, 3) := by decide +kernel
theorem dX10_layHours_48 : decode cX10_layHours 48 = .ok (.iload_n 1, 1) := by decide +kernel
theorem dX10_layHours_49 : decode cX10_layHours 49 = .ok (.iand, 1) := by decide +kernel
theorem dX10_layHours_50 : decode cX10_layHours 50 = .ok (.iload_n 1, 1) := by decide +kernel
theorem dX10_layHours_51 : decode cX10_layHours 51 = .ok (.if_icmp .ne 7, 3) := by decide +kernel
theorem dX10_layHours_54 : decode cX10_layHours 54 = .ok (.iconst 1, 1) := by decide +kernel
theorem dX10_layHours_55 : decode cX10_layHours 55 = .ok (.goto 4, 3) := by decide +kernel
theorem dX10_layHours_58 : decode cX10_layHours 58 = .ok (.iconst 0, 1) := by decide +kernel
theorem dX10_layHours_59 : decode cX10_layHours 59 = .ok (.istore 4, 2) := by decide +kernel
theorem dX10_layHours_61 : decode cX10_layHours 61 = .ok (.aload_n 0, 1) := by decide +kernel
theorem dX10_layHours_62 : decode cX10_layHours 62 = .ok (.getfield 63, 3) := by decide +kernel
theorem dX10_layHours_65 : decode cX10_layHours 65 = .ok (.bipush 9, 2) := by decide +kernel
theorem dX10_layHours_67 : decode cX10_layHours 67 = .ok (.iload_n 3, 1) := by decide +kernel
theorem dX10_layHours_68 : decode cX10_layHours 68 = .ok (.imul, 1) := by decide +kernel
theorem dX10_layHours_69 : decode cX10_layHours 69 = .ok (.iload_n 2, 1) := by decide +kernel
theorem dX10_layHours_70 : decode cX10_layHours 70 = .ok (.iadd, 1) := by decide +kernel
theorem dX10_layHours_71 : decode cX10_layHours 71 = .ok (.iload 4, 2) := by decide +kernel
theorem dX10_layHours_73 : decode cX10_layHours 73 = .ok (.ifCond .eq 26, 3) := by decide +kernel
theorem dX10_layHours_76 : decode cX10_layHours 76 = .ok (.iconst 1, 1) := by decide +kernel
theorem dX10_layHours_77 : decode cX10_layHours 77 = .ok (.aload_n 0, 1) := by decide +kernel
theorem dX10_layHours_78 : decode cX10_layHours 78 = .ok (.getfield 63, 3) := by decide +kernel
theorem dX10_layHours_81 : decode cX10_layHours 81 = .ok (.bipush 9, 2) := by decide +kernel
theorem dX10_layHours_83 : decode cX10_layHours 83 = .ok (.aload_n 0, 1) := by decide +kernel
theorem dX10_layHours_84 : decode cX10_layHours 84 = .ok (.iload_n 3, 1) := by decide +kernel
theorem dX10_layHours_85 : decode cX10_layHours 85 = .ok (.iload_n 2, 1) := by decide +kernel
theorem dX10_layHours_86 : decode cX10_layHours 86 = .ok (.invokevirtual 258, 3) := by decide +kernel
theorem dX10_layHours_89 : decode cX10_layHours 89 = .ok (.imul, 1) := by decide +kernel
theorem dX10_layHours_90 : decode cX10_layHours 90 = .ok (.iload_n 2, 1) := by decide +kernel
theorem dX10_layHours_91 : decode cX10_layHours 91 = .ok (.iadd, 1) := by decide +kernel
theorem dX10_layHours_92 : decode cX10_layHours 92 = .ok (.iconst 1, 1) := by decide +kernel
theorem dX10_layHours_93 : decode cX10_layHours 93 = .ok (.iadd, 1) := by decide +kernel
theorem dX10_layHours_94 : decode cX10_layHours 94 = .ok (.iaload, 1) := by decide +kernel
theorem dX10_layHours_95 : decode cX10_layHours 95 = .ok (.iadd, 1) := by decide +kernel
theorem dX10_layHours_96 : decode cX10_layHours 96 = .ok (.goto 4, 3) := by decide +kernel
theorem dX10_layHours_99 : decode cX10_layHours 99 = .ok (.iconst 0, 1) := by decide +kernel
theorem dX10_layHours_100 : decode cX10_layHours 100 = .ok (.iastore, 1) := by decide +kernel
theorem dX10_layHours_101 : decode cX10_layHours 101 = .ok (.iinc 3 1, 3) := by decide +kernel
theorem dX10_layHours_104 : decode cX10_layHours 104 = .ok (.goto (-68), 3) := by decide +kernel
theorem dX10_layHours_107 : decode cX10_layHours 107 = .ok (.iinc 2 (-1), 3) := by decide +kernel
theorem dX10_layHours_110 : decode cX10_layHours 110 = .ok (.goto (-80), 3) := by decide +kernel
theorem dX10_layHours_113 : decode cX10_layHours 113 = .ok (.return_, 1) := by decide +kernel
theorem dX10_nextTile_0 : decode cX10_nextTile 0 = .ok (.bipush (-9), 2) := by decide +kernel
theorem dX10_nextTile_2 : decode cX10_nextTile 2 = .ok (.istore_n 3, 1) := by decide +kernel
theorem dX10_nextTile_3 : decode cX10_nextTile 3 = .ok (.iconst 0, 1) := by decide +kernel
theorem dX10_nextTile_4 : decode cX10_nextTile 4 = .ok (.istore 4, 2) := by decide +kernel
theorem dX10_nextTile_6 : decode cX10_nextTile 6 = .ok (.iload 4, 2) := by decide +kernel
theorem dX10_nextTile_8 : decode cX10_nextTile 8 = .ok (.iconst 5, 1) := by decide +kernel
theorem dX10_nextTile_9 : decode cX10_nextTile 9 = .ok (.if_icmp .ge 125, 3) := by decide +kernel
theorem dX10_nextTile_12 : decode cX10_nextTile 12 = .ok (.iload_n 1, 1) := by decide +kernel
theorem dX10_nextTile_13 : decode cX10_nextTile 13 = .ok (.bipush 7, 2) := by decide +kernel
theorem dX10_nextTile_15 : decode cX10_nextTile 15 = .ok (.idiv, 1) := by decide +kernel
theorem dX10_nextTile_16 : decode cX10_nextTile 16 = .ok (.iload 4, 2) := by decide +kernel
theorem dX10_nextTile_18 : decode cX10_nextTile 18 = .ok (.ifCond .ne 7, 3) := by decide +kernel
theorem dX10_nextTile_21 : decode cX10_nextTile 21 = .ok (.iconst (-1), 1) := by decide +kernel
theorem dX10_nextTile_22 : decode cX10_nextTile 22 = .ok (.goto 14, 3) := by decide +kernel
theorem dX10_nextTile_25 : decode cX10_nextTile 25 = .ok (.iload 4, 2) := by decide +kernel
theorem dX10_nextTile_27 : decode cX10_nextTile 27 = .ok (.iconst 4, 1) := by decide +kernel
theorem dX10_nextTile_28 : decode cX10_nextTile 28 = .ok (.if_icmp .ne 7, 3) := by decide +kernel
theorem dX10_nextTile_31 : decode cX10_nextTile 31 = .ok (.iconst 1, 1) := by decide +kernel
theorem dX10_nextTile_32 : decode cX10_nextTile 32 = .ok (.goto 4, 3) := by decide +kernel
theorem dX10_nextTile_35 : decode cX10_nextTile 35 = .ok (.iconst 0, 1) := by decide +kernel
theorem dX10_nextTile_36 : decode cX10_nextTile 36 = .ok (.iadd, 1) := by decide +kernel
theorem dX10_nextTile_37 : decode cX10_nextTile 37 = .ok (.istore 5, 2) := by decide +kernel
theorem dX10_nextTile_39 : decode cX10_nextTile 39 = .ok (.iload_n 1, 1) := by decide +kernel
theorem dX10_nextTile_40 : decode cX10_nextTile 40 = .ok (.bipush 7, 2) := by decide +kernel
theorem dX10_nextTile_42 : decode cX10_nextTile 42 = .ok (.irem, 1) := by decide +kernel
theorem dX10_nextTile_43 : decode cX10_nextTile 43 = .ok (.iload 4, 2) := by decide +kernel
theorem dX10_nextTile_45 : decode cX10_nextTile 45 = .ok (.iconst 1, 1) := by decide +kernel
theorem dX10_nextTile_46 : decode cX10_nextTile 46 = .ok (.if_icmp .ne 7, 3) := by decide +kernel
theorem dX10_nextTile_49 : decode cX10_nextTile 49 = .ok (.iconst (-1), 1) := by decide +kernel
theorem dX10_nextTile_50 : decode cX10_nextTile 50 = .ok (.goto 14, 3) := by decide +kernel
theorem dX10_nextTile_53 : decode cX10_nextTile 53 = .ok (.iload 4, 2) := by decide +kernel
theorem dX10_nextTile_55 : decode cX10_nextTile 55 = .ok (.iconst 3, 1) := by decide +kernel
theorem dX10_nextTile_56 : decode cX10_nextTile 56 = .ok (.if_icmp .ne 7, 3) := by decide +kernel
theorem dX10_nextTile_59 : decode cX10_nextTile 59 = .ok (.iconst 1, 1) := by decide +kernel
theorem dX10_nextTile_60 : decode cX10_nextTile 60 = .ok (.goto 4, 3) := by decide +kernel
theorem dX10_nextTile_63 : decode cX10_nextTile 63 = .ok (.iconst 0, 1) := by decide +kernel
theorem dX10_nextTile_64 : decode cX10_nextTile 64 = .ok (.iadd, 1) := by decide +kernel
theorem dX10_nextTile_65 : decode cX10_nextTile 65 = .ok (.istore 6, 2) := by decide +kernel
theorem dX10_nextTile_67 : decode cX10_nextTile 67 = .ok (.iload 5, 2) := by decide +kernel
theorem dX10_nextTile_69 : decode cX10_nextTile 69 = .ok (.iload 6, 2) := by decide +kernel
theorem dX10_nextTile_71 : decode cX10_nextTile 71 = .ok (.invokestatic 237, 3) := by decide +kernel
theorem dX10_nextTile_74 : decode cX10_nextTile 74 = .ok (.ifCond .eq 54, 3) := by decide +kernel
theorem dX10_nextTile_77 : decode cX10_nextTile 77 = .ok (.iload_n 3, 1) := by decide +kernel
theorem dX10_nextTile_78 : decode cX10_nextTile 78 = .ok (.bipush (-9), 2) := by decide +kernel
theorem dX10_nextTile_80 : decode cX10_nextTile 80 = .ok (.if_icmp .eq 39, 3) := by decide +kernel
theorem dX10_nextTile_83 : decode cX10_nextTile 83 = .ok (.aload_n 0, 1) := by decide +kernel
theorem dX10_nextTile_84 : decode cX10_nextTile 84 = .ok (.getfield 63, 3) := by decide +kernel
theorem dX10_nextTile_87 : decode cX10_nextTile 87 = .ok (.bipush 9, 2) := by decide +kernel
theorem dX10_nextTile_89 : decode cX10_nextTile 89 = .ok (.bipush 7, 2) := by decide +kernel
theorem dX10_nextTile_91 : decode cX10_nextTile 91 = .ok (.iload 5, 2) := by decide +kernel
theorem dX10_nextTile_93 : decode cX10_nextTile 93 = .ok (.imul, 1) := by decide +kernel
theorem dX10_nextTile_94 : decode cX10_nextTile 94 = .ok (.iload 6, 2) := by decide +kernel
theorem dX10_nextTile_96 : decode cX10_nextTile 96 = .ok (.iadd, 1) := by decide +kernel
theorem dX10_nextTile_97 : decode cX10_nextTile 97 = .ok (.imul, 1) := by decide +kernel
theorem dX10_nextTile_98 : decode cX10_nextTile 98 = .ok (.iload_n 2, 1) := by decide +kernel
theorem dX10_nextTile_99 : decode cX10_nextTile 99 = .ok (.iadd, 1) := by decide +kernel
theorem dX10_nextTile_100 : decode cX10_nextTile 100 = .ok (.iconst 1, 1) := by decide +kernel
theorem dX10_nextTile_101 : decode cX10_nextTile 101 = .ok (.iadd, 1) := by decide +kernel
theorem dX10_nextTile_102 : decode cX10_nextTile 102 = .ok (.iaload, 1) := by decide +kernel
theorem dX10_nextTile_103 : decode cX10_nextTile 103 = .ok (.aload_n 0, 1) := by decide +kernel
theorem dX10_nextTile_104 : decode cX10_nextTile 104 = .ok (.getfield 63, 3) := by decide +kernel
theorem dX10_nextTile_107 : decode cX10_nextTile 107 = .ok (.bipush 9, 2) := by decide +kernel
theorem dX10_nextTile_109 : decode cX10_nextTile 109 = .ok (.iload_n 3, 1) := by decide +kernel
theorem dX10_nextTile_110 : decode cX10_nextTile 110 = .ok (.imul, 1) := by decide +kernel
theorem dX10_nextTile_111 : decode cX10_nextTile 111 = .ok (.iload_n 2, 1) := by decide +kernel
theorem dX10_nextTile_112 : decode cX10_nextTile 112 = .ok (.iadd, 1) := by decide +kernel
theorem dX10_nextTile_113 : decode cX10_nextTile 113 = .ok (.iconst 1, 1) := by decide +kernel
theorem dX10_nextTile_114 : decode cX10_nextTile 114 = .ok (.iadd, 1) := by decide +kernel
theorem dX10_nextTile_115 : decode cX10_nextTile 115 = .ok (.iaload, 1) := by decide +kernel
theorem dX10_nextTile_116 : decode cX10_nextTile 116 = .ok (.if_icmp .le 12, 3) := by decide +kernel
theorem dX10_nextTile_119 : decode cX10_nextTile 119 = .ok (.bipush 7, 2) := by decide +kernel
theorem dX10_nextTile_121 : decode cX10_nextTile 121 = .ok (.iload 5, 2) := by decide +kernel
theorem dX10_nextTile_123 : decode cX10_nextTile 123 = .ok (.imul, 1) := by decide +kernel
theorem dX10_nextTile_124 : decode cX10_nextTile 124 = .ok (.iload 6, 2) := by decide +kernel
theorem dX10_nextTile_126 : decode cX10_nextTile 126 = .ok (.iadd, 1) := by decide +kernel
theorem dX10_nextTile_127 : decode cX10_nextTile 127 = .ok (.istore_n 3, 1) := by decide +kernel
theorem dX10_nextTile_128 : decode cX10_nextTile 128 = .ok (.iinc 4 1, 3) := by decide +kernel
theorem dX10_nextTile_131 : decode cX10_nextTile 131 = .ok (.goto (-125), 3) := by decide +kernel
theorem dX10_nextTile_134 : decode cX10_nextTile 134 = .ok (.iload_n 3, 1) := by decide +kernel
theorem dX10_nextTile_135 : decode cX10_nextTile 135 = .ok (.ireturn, 1) := by decide +kernel
theorem dX10_child_0 : decode cX10_child 0 = .ok (.iload_n 1, 1) := by decide +kernel
theorem dX10_child_1 : decode cX10_child 1 = .ok (.iload_n 2, 1) := by decide +kernel
theorem dX10_child_2 : decode cX10_child 2 = .ok (.invokestatic 237, 3) := by decide +kernel
theorem dX10_child_5 : decode cX10_child 5 = .ok (.ifCond .eq 38, 3) := by decide +kernel
theorem dX10_child_8 : decode cX10_child 8 = .ok (.iload_n 3, 1) := by decide +kernel
theorem dX10_child_9 : decode cX10_child 9 = .ok (.invokestatic 240, 3) := by decide +kernel
theorem dX10_child_12 : decode cX10_child 12 = .ok (.ifCond .eq 31, 3) := by decide +kernel
theorem dX10_child_15 : decode cX10_child 15 = .ok (.iload 4, 2) := by decide +kernel
theorem dX10_child_17 : decode cX10_child 17 = .ok (.i2l, 1) := by decide +kernel
theorem dX10_child_18 : decode cX10_child 18 = .ok (.lconst 1, 1) := by decide +kernel
theorem dX10_child_19 : decode cX10_child 19 = .ok (.ldc2_w 170, 3) := by decide +kernel
theorem dX10_child_22 : decode cX10_child 22 = .ok (.invokestatic 81, 3) := by decide +kernel
theorem dX10_child_25 : decode cX10_child 25 = .ok (.ifCond .eq 18, 3) := by decide +kernel
theorem dX10_child_28 : decode cX10_child 28 = .ok (.iload 5, 2) := by decide +kernel
theorem dX10_child_30 : decode cX10_child 30 = .ok (.i2l, 1) := by decide +kernel
theorem dX10_child_31 : decode cX10_child 31 = .ok (.ldc2_w 261, 3) := by decide +kernel
theorem dX10_child_34 : decode cX10_child 34 = .ok (.ldc2_w 170, 3) := by decide +kernel
theorem dX10_child_37 : decode cX10_child 37 = .ok (.invokestatic 81, 3) := by decide +kernel
theorem dX10_child_40 : decode cX10_child 40 = .ok (.ifCond .ne 5, 3) := by decide +kernel
theorem dX10_child_43 : decode cX10_child 43 = .ok (.iconst (-1), 1) := by decide +kernel
theorem dX10_child_44 : decode cX10_child 44 = .ok (.ireturn, 1) := by decide +kernel
theorem dX10_child_45 : decode cX10_child 45 = .ok (.aload_n 0, 1) := by decide +kernel
theorem dX10_child_46 : decode cX10_child 46 = .ok (.iload 4, 2) := by decide +kernel
theorem dX10_child_48 : decode cX10_child 48 = .ok (.invokevirtual 263, 3) := by decide +kernel
theorem dX10_child_51 : decode cX10_child 51 = .ok (.bipush 7, 2) := by decide +kernel
theorem dX10_child_53 : decode cX10_child 53 = .ok (.iload_n 1, 1) := by decide +kernel
theorem dX10_child_54 : decode cX10_child 54 = .ok (.imul, 1) := by decide +kernel
theorem dX10_child_55 : decode cX10_child 55 = .ok (.iload_n 2, 1) := by decide +kernel
theorem dX10_child_56 : decode cX10_child 56 = .ok (.iadd, 1) := by decide +kernel
theorem dX10_child_57 : decode cX10_child 57 = .ok (.istore 6, 2) := by decide +kernel
theorem dX10_child_59 : decode cX10_child 59 = .ok (.aload_n 0, 1) := by decide +kernel
theorem dX10_child_60 : decode cX10_child 60 = .ok (.getfield 63, 3) := by decide +kernel
theorem dX10_child_63 : decode cX10_child 63 = .ok (.bipush 9, 2) := by decide +kernel
theorem dX10_child_65 : decode cX10_child 65 = .ok (.iload 6, 2) := by decide +kernel
theorem dX10_child_67 : decode cX10_child 67 = .ok (.imul, 1) := by decide +kernel
theorem dX10_child_68 : decode cX10_child 68 = .ok (.iload_n 3, 1) := by decide +kernel
theorem dX10_child_69 : decode cX10_child 69 = .ok (.iadd, 1) := by decide +kernel
theorem dX10_child_70 : decode cX10_child 70 = .ok (.iaload, 1) := by decide +kernel
theorem dX10_child_71 : decode cX10_child 71 = .ok (.istore 7, 2) := by decide +kernel
theorem dX10_child_73 : decode cX10_child 73 = .ok (.iload 5, 2) := by decide +kernel
theorem dX10_child_75 : decode cX10_child 75 = .ok (.iconst (-1), 1) := by decide +kernel
theorem dX10_child_76 : decode cX10_child 76 = .ok (.if_icmp .ne 6, 3) := by decide +kernel
theorem dX10_child_79 : decode cX10_child 79 = .ok (.iload 7, 2) := by decide +kernel
theorem dX10_child_81 : decode cX10_child 81 = .ok (.ireturn, 1) := by decide +kernel
theorem dX10_child_82 : decode cX10_child 82 = .ok (.iload 5, 2) := by decide +kernel
theorem dX10_child_84 : decode cX10_child 84 = .ok (.iload 7, 2) := by decide +kernel
theorem dX10_child_86 : decode cX10_child 86 = .ok (.if_icmp .lt 6, 3) := by decide +kernel
theorem dX10_child_89 : decode cX10_child 89 = .ok (.bipush (-9), 2) := by decide +kernel
theorem dX10_child_91 : decode cX10_child 91 = .ok (.ireturn, 1) := by decide +kernel
theorem dX10_child_92 : decode cX10_child 92 = .ok (.iconst 0, 1) := by decide +kernel
theorem dX10_child_93 : decode cX10_child 93 = .ok (.istore 8, 2) := by decide +kernel
theorem dX10_child_95 : decode cX10_child 95 = .ok (.iload 8, 2) := by decide +kernel
theorem dX10_child_97 : decode cX10_child 97 = .ok (.iload 5, 2) := by decide +kernel
theorem dX10_child_99 : decode cX10_child 99 = .ok (.if_icmp .ge 21, 3) := by decide +kernel
theorem dX10_child_102 : decode cX10_child 102 = .ok (.aload_n 0, 1) := by decide +kernel
theorem dX10_child_103 : decode cX10_child 103 = .ok (.iload 6, 2) := by decide +kernel
theorem dX10_child_105 : decode cX10_child 105 = .ok (.iload_n 3, 1) := by decide +kernel
theorem dX10_child_106 : decode cX10_child 106 = .ok (.iload 8, 2) := by decide +kernel
theorem dX10_child_108 : decode cX10_child 108 = .ok (.iadd, 1) := by decide +kernel
theorem dX10_child_109 : decode cX10_child 109 = .ok (.invokevirtual 258, 3) := by decide +kernel
theorem dX10_child_112 : decode cX10_child 112 = .ok (.istore 6, 2) := by decide +kernel
theorem dX10_child_114 : decode cX10_child 114 = .ok (.iinc 8 1, 3) := by decide +kernel
theorem dX10_child_117 : decode cX10_child 117 = .ok (.goto (-22), 3) := by decide +kernel
theorem dX10_child_120 : decode cX10_child 120 = .ok (.iload 6, 2) := by decide +kernel
theorem dX10_child_122 : decode cX10_child 122 = .ok (.ireturn, 1) := by decide +kernel
theorem dX10_hail_0 : decode cX10_hail 0 = .ok (.iload_n 1, 1) := by decide +kernel
theorem dX10_hail_1 : decode cX10_hail 1 = .ok (.iload_n 2, 1) := by decide +kernel
theorem dX10_hail_2 : decode cX10_hail 2 = .ok (.invokestatic 237, 3) := by decide +kernel
theorem dX10_hail_5 : decode cX10_hail 5 = .ok (.ifCond .eq 34, 3) := by decide +kernel
theorem dX10_hail_8 : decode cX10_hail 8 = .ok (.iload_n 3, 1) := by decide +kernel
theorem dX10_hail_9 : decode cX10_hail 9 = .ok (.invokestatic 240, 3) := by decide +kernel
theorem dX10_hail_12 : decode cX10_hail 12 = .ok (.ifCond .eq 27, 3) := by decide +kernel
theorem dX10_hail_15 : decode cX10_hail 15 = .ok (.iload 4, 2) := by decide +kernel
theorem dX10_hail_17 : decode cX10_hail 17 = .ok (.i2l, 1) := by decide +kernel
theorem dX10_hail_18 : decode cX10_hail 18 = .ok (.lconst 0, 1) := by decide +kernel
theorem dX10_hail_19 : decode cX10_hail 19 = .ok (.ldc2_w 267, 3) := by decide +kernel
theorem dX10_hail_22 : decode cX10_hail 22 = .ok (.invokestatic 81, 3) := by decide +kernel
theorem dX10_hail_25 : decode cX10_hail 25 = .ok (.ifCond .eq 14, 3) := by decide +kernel
theorem dX10_hail_28 : decode cX10_hail 28 = .ok (.iload 5, 2) := by decide +kernel
theorem dX10_hail_30 : decode cX10_hail 30 = .ok (.i2l, 1) := by decide +kernel
theorem dX10_hail_31 : decode cX10_hail 31 = .ok (.lconst 0, 1) := by decide +kernel
theorem dX10_hail_32 : decode cX10_hail 32 = .ok (.lconst 1, 1) := by decide +kernel
theorem dX10_hail_33 : decode cX10_hail 33 = .ok (.invokestatic 81, 3) := by decide +kernel
theorem dX10_hail_36 : decode cX10_hail 36 = .ok (.ifCond .ne 5, 3) := by decide +kernel
theorem dX10_hail_39 : decode cX10_hail 39 = .ok (.iconst (-1), 1) := by decide +kernel
theorem dX10_hail_40 : decode cX10_hail 40 = .ok (.ireturn, 1) := by decide +kernel
theorem dX10_hail_41 : decode cX10_hail 41 = .ok (.aload_n 0, 1) := by decide +kernel
theorem dX10_hail_42 : decode cX10_hail 42 = .ok (.aload_n 0, 1) := by decide +kernel
theorem dX10_hail_43 : decode cX10_hail 43 = .ok (.getfield 23, 3) := by decide +kernel
theorem dX10_hail_46 : decode cX10_hail 46 = .ok (.iload_n 1, 1) := by decide +kernel
theorem dX10_hail_47 : decode cX10_hail 47 = .ok (.iload_n 2, 1) := by decide +kernel
theorem dX10_hail_48 : decode cX10_hail 48 = .ok (.iload_n 3, 1) := by decide +kernel
theorem dX10_hail_49 : decode cX10_hail 49 = .ok (.iconst 0, 1) := by decide +kernel
theorem dX10_hail_50 : decode cX10_hail 50 = .ok (.invokevirtual 186, 3) := by decide +kernel
theorem dX10_hail_53 : decode cX10_hail 53 = .ok (.istore 6, 2) := by decide +kernel
theorem dX10_hail_55 : decode cX10_hail 55 = .ok (.aload_n 0, 1) := by decide +kernel
theorem dX10_hail_56 : decode cX10_hail 56 = .ok (.aload_n 0, 1) := by decide +kernel
theorem dX10_hail_57 : decode cX10_hail 57 = .ok (.getfield 23, 3) := by decide +kernel
theorem dX10_hail_60 : decode cX10_hail 60 = .ok (.iload_n 1, 1) := by decide +kernel
theorem dX10_hail_61 : decode cX10_hail 61 = .ok (.iload_n 2, 1) := by decide +kernel
theorem dX10_hail_62 : decode cX10_hail 62 = .ok (.iload_n 3, 1) := by decide +kernel
theorem dX10_hail_63 : decode cX10_hail 63 = .ok (.iconst 1, 1) := by decide +kernel
theorem dX10_hail_64 : decode cX10_hail 64 = .ok (.invokevirtual 186, 3) := by decide +kernel
theorem dX10_hail_67 : decode cX10_hail 67 = .ok (.istore 7, 2) := by decide +kernel
theorem dX10_hail_69 : decode cX10_hail 69 = .ok (.iconst 0, 1) := by decide +kernel
theorem dX10_hail_70 : decode cX10_hail 70 = .ok (.istore 8, 2) := by decide +kernel
theorem dX10_hail_72 : decode cX10_hail 72 = .ok (.iconst 0, 1) := by decide +kernel
theorem dX10_hail_73 : decode cX10_hail 73 = .ok (.istore 9, 2) := by decide +kernel
theorem dX10_hail_75 : decode cX10_hail 75 = .ok (.iload 9, 2) := by decide +kernel
theorem dX10_hail_77 : decode cX10_hail 77 = .ok (.iconst 4, 1) := by decide +kernel
theorem dX10_hail_78 : decode cX10_hail 78 = .ok (.if_icmp .ge 142, 3) := by decide +kernel
theorem dX10_hail_81 : decode cX10_hail 81 = .ok (.aload_n 0, 1) := by decide +kernel
theorem dX10_hail_82 : decode cX10_hail 82 = .ok (.getfield 23, 3) := by decide +kernel
theorem dX10_hail_85 : decode cX10_hail 85 = .ok (.iconst 0, 1) := by decide +kernel
theorem dX10_hail_86 : decode cX10_hail 86 = .ok (.aload_n 0, 1) := by decide +kernel
theorem dX10_hail_87 : decode cX10_hail 87 = .ok (.getfield 26, 3) := by decide +kernel
theorem dX10_hail_90 : decode cX10_hail 90 = .ok (.iconst 0, 1) := by decide +kernel
theorem dX10_hail_91 : decode cX10_hail 91 = .ok (.bipush 11, 2) := by decide +kernel
theorem dX10_hail_93 : decode cX10_hail 93 = .ok (.invokestatic 162, 3) := by decide +kernel
theorem dX10_hail_96 : decode cX10_hail 96 = .ok (.iload 9, 2) := by decide +kernel
theorem dX10_hail_98 : decode cX10_hail 98 = .ok (.iconst 0, 1) := by decide +kernel
theorem dX10_hail_99 : decode cX10_hail 99 = .ok (.invokestatic 172, 3) := by decide +kernel
theorem dX10_hail_102 : decode cX10_hail 102 = .ok (.ifCond .eq 19, 3) := by decide +kernel
theorem dX10_hail_105 : decode cX10_hail 105 = .ok (.iload 6, 2) := by decide +kernel
theorem dX10_hail_107 : decode cX10_hail 107 = .ok (.bipush (-9), 2) := by decide +kernel
theorem dX10_hail_109 : decode cX10_hail 109 = .ok (.if_icmp .eq 12, 3) := by decide +kernel
theorem dX10_hail_112 : decode cX10_hail 112 = .ok (.aload_n 0, 1) := by decide +kernel
theorem dX10_hail_113 : decode cX10_hail 113 = .ok (.getfield 26, 3) := by decide +kernel
theorem dX10_hail_116 : decode cX10_hail 116 = .ok (.iload 6, 2) := by decide +kernel
theorem dX10_hail_118 : decode cX10_hail 118 = .ok (.invokestatic 207, 3) := by decide +kernel
theorem dX10_hail_121 : decode cX10_hail 121 = .ok (.iload 9, 2) := by decide +kernel
theorem dX10_hail_123 : decode cX10_hail 123 = .ok (.iconst 1, 1) := by decide +kernel
theorem dX10_hail_124 : decode cX10_hail 124 = .ok (.invokestatic 172, 3) := by decide +kernel
theorem dX10_hail_127 : decode cX10_hail 127 = .ok (.ifCond .eq 19, 3) := by decide +kernel
theorem dX10_hail_130 : decode cX10_hail 130 = .ok (.iload 7, 2) := by decide +kernel
theorem dX10_hail_132 : decode cX10_hail 132 = .ok (.bipush (-9), 2) := by decide +kernel
theorem dX10_hail_134 : decode cX10_hail 134 = .ok (.if_icmp .eq 12, 3) := by decide +kernel
theorem dX10_hail_137 : decode cX10_hail 137 = .ok (.aload_n 0, 1) := by decide +kernel
theorem dX10_hail_138 : decode cX10_hail 138 = .ok (.getfield 26, 3) := by decide +kernel
theorem dX10_hail_141 : decode cX10_hail 141 = .ok (.iload 7, 2) := by decide +kernel
theorem dX10_hail_143 : decode cX10_hail 143 = .ok (.invokestatic 207, 3) := by decide +kernel
theorem dX10_hail_146 : decode cX10_hail 146 = .ok (.iload 9, 2) := by decide +kernel
theorem dX10_hail_148 : decode cX10_hail 148 = .ok (.iconst 0, 1) := by decide +kernel
theorem dX10_hail_149 : decode cX10_hail 149 = .ok (.invokestatic 172, 3) := by decide +kernel
theorem dX10_hail_152 : decode cX10_hail 152 = .ok (.ifCond .eq 8, 3) := by decide +kernel
theorem dX10_hail_155 : decode cX10_hail 155 = .ok (.iload 4, 2) := by decide +kernel
theorem dX10_hail_157 : decode cX10_hail 157 = .ok (.goto 8, 3) := by decide +kernel
theorem dX10_hail_160 : decode cX10_hail 160 = .ok (.bipush 10, 2) := by decide +kernel
theorem dX10_hail_162 : decode cX10_hail 162 = .ok (.iload 4, 2) := by decide +kernel
theorem dX10_hail_164 : decode cX10_hail 164 = .ok (.isub, 1) := by decide +kernel
theorem dX10_hail_165 : decode cX10_hail 165 = .ok (.iload 9, 2) := by decide +kernel
theorem dX10_hail_167 : decode cX10_hail 167 = .ok (.iconst 1, 1) := by decide +kernel
theorem dX10_hail_168 : decode cX10_hail 168 = .ok (.invokestatic 172, 3) := by decide +kernel
theorem dX10_hail_171 : decode cX10_hail 171 = .ok (.ifCond .eq 8, 3) := by decide +kernel
theorem dX10_hail_174 : decode cX10_hail 174 = .ok (.iload 4, 2) := by decide +kernel
theorem dX10_hail_176 : decode cX10_hail 176 = .ok (.goto 8, 3) := by decide +kernel
theorem dX10_hail_179 : decode cX10_hail 179 = .ok (.bipush 10, 2) := by decide +kernel
theorem dX10_hail_181 : decode cX10_hail 181 = .ok (.iload 4, 2) := by decide +kernel
theorem dX10_hail_183 : decode cX10_hail 183 = .ok (.isub, 1) := by decide +kernel
theorem dX10_hail_184 : decode cX10_hail 184 = .ok (.imul, 1) := by decide +kernel
theorem dX10_hail_185 : decode cX10_hail 185 = .ok (.istore 10, 2) := by decide +kernel
theorem dX10_hail_187 : decode cX10_hail 187 = .ok (.iload 8, 2) := by decide +kernel
theorem dX10_hail_189 : decode cX10_hail 189 = .ok (.aload_n 0, 1) := by decide +kernel
theorem dX10_hail_190 : decode cX10_hail 190 = .ok (.aload_n 0, 1) := by decide +kernel
theorem dX10_hail_191 : decode cX10_hail 191 = .ok (.getfield 26, 3) := by decide +kernel
theorem dX10_hail_194 : decode cX10_hail 194 = .ok (.iload_n 1, 1) := by decide +kernel
theorem dX10_hail_195 : decode cX10_hail 195 = .ok (.iload_n 2, 1) := by decide +kernel
theorem dX10_hail_196 : decode cX10_hail 196 = .ok (.iload_n 3, 1) := by decide +kernel
theorem dX10_hail_197 : decode cX10_hail 197 = .ok (.invokevirtual 193, 3) := by decide +kernel
theorem dX10_hail_200 : decode cX10_hail 200 = .ok (.bipush 7, 2) := by decide +kernel
theorem dX10_hail_202 : decode cX10_hail 202 = .ok (.if_icmp .ne 8, 3) := by decide +kernel
theorem dX10_hail_205 : decode cX10_hail 205 = .ok (.iload 10, 2) := by decide +kernel
theorem dX10_hail_207 : decode cX10_hail 207 = .ok (.goto 4, 3) := by decide +kernel
theorem dX10_hail_210 : decode cX10_hail 210 = .ok (.iconst 0, 1) := by decide +kernel
theorem dX10_hail_211 : decode cX10_hail 211 = .ok (.iadd, 1) := by decide +kernel
theorem dX10_hail_212 : decode cX10_hail 212 = .ok (.istore 8, 2) := by decide +kernel
theorem dX10_hail_214 : decode cX10_hail 214 = .ok (.iinc 9 1, 3) := by decide +kernel
theorem dX10_hail_217 : decode cX10_hail 217 = .ok (.goto (-142), 3) := by decide +kernel
theorem dX10_hail_220 : decode cX10_hail 220 = .ok (.iload 8, 2) := by decide +kernel
theorem dX10_hail_222 : decode cX10_hail 222 = .ok (.istore 9, 2) := by decide +kernel
theorem dX10_hail_224 : decode cX10_hail 224 = .ok (.bipush 100, 2) := by decide +kernel
theorem dX10_hail_226 : decode cX10_hail 226 = .ok (.istore 10, 2) := by decide +kernel
theorem dX10_hail_228 : decode cX10_hail 228 = .ok (.iload 10, 2) := by decide +kernel
theorem dX10_hail_230 : decode cX10_hail 230 = .ok (.ifCond .eq 21, 3) := by decide +kernel
theorem dX10_hail_233 : decode cX10_hail 233 = .ok (.iload 9, 2) := by decide +kernel
theorem dX10_hail_235 : decode cX10_hail 235 = .ok (.iload 10, 2) := by decide +kernel
theorem dX10_hail_237 : decode cX10_hail 237 = .ok (.irem, 1) := by decide +kernel
theorem dX10_hail_238 : decode cX10_hail 238 = .ok (.istore 11, 2) := by decide +kernel
theorem dX10_hail_240 : decode cX10_hail 240 = .ok (.iload 10, 2) := by decide +kernel
theorem dX10_hail_242 : decode cX10_hail 242 = .ok (.istore 9, 2) := by decide +kernel
theorem dX10_hail_244 : decode cX10_hail 244 = .ok (.iload 11, 2) := by decide +kernel
theorem dX10_hail_246 : decode cX10_hail 246 = .ok (.istore 10, 2) := by decide +kernel
theorem dX10_hail_248 : decode cX10_hail 248 = .ok (.goto (-20), 3) := by decide +kernel
theorem dX10_hail_251 : decode cX10_hail 251 = .ok (.iload 5, 2) := by decide +kernel
theorem dX10_hail_253 : decode cX10_hail 253 = .ok (.ifCond .ne 11, 3) := by decide +kernel
theorem dX10_hail_256 : decode cX10_hail 256 = .ok (.iload 8, 2) := by decide +kernel
theorem dX10_hail_258 : decode cX10_hail 258 = .ok (.iload 9, 2) := by decide +kernel
theorem dX10_hail_260 : decode cX10_hail 260 = .ok (.idiv, 1) := by decide +kernel
theorem dX10_hail_261 : decode cX10_hail 261 = .ok (.goto 8, 3) := by decide +kernel
theorem dX10_hail_264 : decode cX10_hail 264 = .ok (.bipush 100, 2) := by decide +kernel
theorem dX10_hail_266 : decode cX10_hail 266 = .ok (.iload 9, 2) := by decide +kernel
theorem dX10_hail_268 : decode cX10_hail 268 = .ok (.idiv, 1) := by decide +kernel
theorem dX10_hail_269 : decode cX10_hail 269 = .ok (.ireturn, 1) := by decide +kernel
theorem dX10_saw_0 : decode cX10_saw 0 = .ok (.iload_n 1, 1) := by decide +kernel
theorem dX10_saw_1 : decode cX10_saw 1 = .ok (.iload_n 2, 1) := by decide +kernel
theorem dX10_saw_2 : decode cX10_saw 2 = .ok (.invokestatic 237, 3) := by decide +kernel
theorem dX10_saw_5 : decode cX10_saw 5 = .ok (.ifCond .eq 18, 3) := by decide +kernel
theorem dX10_saw_8 : decode cX10_saw 8 = .ok (.iload_n 3, 1) := by decide +kernel
theorem dX10_saw_9 : decode cX10_saw 9 = .ok (.invokestatic 240, 3) := by decide +kernel
theorem dX10_saw_12 : decode cX10_saw 12 = .ok (.ifCond .eq 11, 3) := by decide +kernel
theorem dX10_saw_15 : decode cX10_saw 15 = .ok (.iload 4, 2) := by decide +kernel
theorem dX10_saw_17 : decode cX10_saw 17 = .ok (.invokestatic 243, 3) := by decide +kernel
theorem dX10_saw_20 : decode cX10_saw 20 = .ok (.ifCond .ne 5, 3) := by decide +kernel
theorem dX10_saw_23 : decode cX10_saw 23 = .ok (.iconst (-1), 1) := by decide +kernel
theorem dX10_saw_24 : decode cX10_saw 24 = .ok (.ireturn, 1) := by decide +kernel
theorem dX10_saw_25 : decode cX10_saw 25 = .ok (.aload_n 0, 1) := by decide +kernel
theorem dX10_saw_26 : decode cX10_saw 26 = .ok (.getfield 76, 3) := by decide +kernel
theorem dX10_saw_29 : decode cX10_saw 29 = .ok (.bipush 6, 2) := by decide +kernel
theorem dX10_saw_31 : decode cX10_saw 31 = .ok (.if_icmp .ne 6, 3) := by decide +kernel
theorem dX10_saw_34 : decode cX10_saw 34 = .ok (.bipush (-3), 2) := by decide +kernel
theorem dX10_saw_36 : decode cX10_saw 36 = .ok (.ireturn, 1) := by decide +kernel
theorem dX10_saw_37 : decode cX10_saw 37 = .ok (.aload_n 0, 1) := by decide +kernel
theorem dX10_saw_38 : decode cX10_saw 38 = .ok (.getfield 45, 3) := by decide +kernel
theorem dX10_saw_41 : decode cX10_saw 41 = .ok (.iconst 4, 1) := by decide +kernel
theorem dX10_saw_42 : decode cX10_saw 42 = .ok (.aload_n 0, 1) := by decide +kernel
theorem dX10_saw_43 : decode cX10_saw 43 = .ok (.getfield 76, 3) := by decide +kernel
theorem dX10_saw_46 : decode cX10_saw 46 = .ok (.imul, 1) := by decide +kernel
theorem dX10_saw_47 : decode cX10_saw 47 = .ok (.iload_n 1, 1) := by decide +kernel
theorem dX10_saw_48 : decode cX10_saw 48 = .ok (.iastore, 1) := by decide +kernel
theorem dX10_saw_49 : decode cX10_saw 49 = .ok (.aload_n 0, 1) := by decide +kernel
theorem dX10_saw_50 : decode cX10_saw 50 = .ok (.getfield 45, 3) := by decide +kernel
theorem dX10_saw_53 : decode cX10_saw 53 = .ok (.iconst 4, 1) := by decide +kernel
theorem dX10_saw_54 : decode cX10_saw 54 = .ok (.aload_n 0, 1) := by decide +kernel
theorem dX10_saw_55 : decode cX10_saw 55 = .ok (.getfield 76, 3) := by decide +kernel
theorem dX10_saw_58 : decode cX10_saw 58 = .ok (.imul, 1) := by decide +kernel
theorem dX10_saw_59 : decode cX10_saw 59 = .ok (.iconst 1, 1) := by decide +kernel
theorem dX10_saw_60 : decode cX10_saw 60 = .ok (.iadd, 1) := by decide +kernel
theorem dX10_saw_61 : decode cX10_saw 61 = .ok (.iload_n 2, 1) := by decide +kernel
theorem dX10_saw_62 : decode cX10_saw 62 = .ok (.iastore, 1) := by decide +kernel
theorem dX10_saw_63 : decode cX10_saw 63 = .ok (.aload_n 0, 1) := by decide +kernel
theorem dX10_saw_64 : decode cX10_saw 64 = .ok (.getfield 45, 3) := by decide +kernel
theorem dX10_saw_67 : decode cX10_saw 67 = .ok (.iconst 4, 1) := by decide +kernel
theorem dX10_saw_68 : decode cX10_saw 68 = .ok (.aload_n 0, 1) := by decide +kernel
theorem dX10_saw_69 : decode cX10_saw 69 = .ok (.getfield 76, 3) := by decide +kernel
theorem dX10_saw_72 : decode cX10_saw 72 = .ok (.imul, 1) := by decide +kernel
theorem dX10_saw_73 : decode cX10_saw 73 = .ok (.iconst 2, 1) := by decide +kernel
theorem dX10_saw_74 : decode cX10_saw 74 = .ok (.iadd, 1) := by decide +kernel
theorem dX10_saw_75 : decode cX10_saw 75 = .ok (.iload_n 3, 1) := by decide +kernel
theorem dX10_saw_76 : decode cX10_saw 76 = .ok (.iastore, 1) := by decide +kernel
theorem dX10_saw_77 : decode cX10_saw 77 = .ok (.aload_n 0, 1) := by decide +kernel
theorem dX10_saw_78 : decode cX10_saw 78 = .ok (.getfield 45, 3) := by decide +kernel
theorem dX10_saw_81 : decode cX10_saw 81 = .ok (.iconst 4, 1) := by decide +kernel
theorem dX10_saw_82 : decode cX10_saw 82 = .ok (.aload_n 0, 1) := by decide +kernel
theorem dX10_saw_83 : decode cX10_saw 83 = .ok (.getfield 76, 3) := by decide +kernel
theorem dX10_saw_86 : decode cX10_saw 86 = .ok (.imul, 1) := by decide +kernel
theorem dX10_saw_87 : decode cX10_saw 87 = .ok (.iconst 3, 1) := by decide +kernel
theorem dX10_saw_88 : decode cX10_saw 88 = .ok (.iadd, 1) := by decide +kernel
theorem dX10_saw_89 : decode cX10_saw 89 = .ok (.iload 4, 2) := by decide +kernel
theorem dX10_saw_91 : decode cX10_saw 91 = .ok (.iastore, 1) := by decide +kernel
theorem dX10_saw_92 : decode cX10_saw 92 = .ok (.aload_n 0, 1) := by decide +kernel
theorem dX10_saw_93 : decode cX10_saw 93 = .ok (.dup, 1) := by decide +kernel
theorem dX10_saw_94 : decode cX10_saw 94 = .ok (.getfield 76, 3) := by decide +kernel
theorem dX10_saw_97 : decode cX10_saw 97 = .ok (.iconst 1, 1) := by decide +kernel
theorem dX10_saw_98 : decode cX10_saw 98 = .ok (.iadd, 1) := by decide +kernel
theorem dX10_saw_99 : decode cX10_saw 99 = .ok (.putfield 76, 3) := by decide +kernel
theorem dX10_saw_102 : decode cX10_saw 102 = .ok (.aload_n 0, 1) := by decide +kernel
theorem dX10_saw_103 : decode cX10_saw 103 = .ok (.getfield 76, 3) := by decide +kernel
theorem dX10_saw_106 : decode cX10_saw 106 = .ok (.ireturn, 1) := by decide +kernel
theorem dX10_forget_0 : decode cX10_forget 0 = .ok (.aload_n 0, 1) := by decide +kernel
theorem dX10_forget_1 : decode cX10_forget 1 = .ok (.getfield 76, 3) := by decide +kernel
theorem dX10_forget_4 : decode cX10_forget 4 = .ok (.istore_n 1, 1) := by decide +kernel
theorem dX10_forget_5 : decode cX10_forget 5 = .ok (.aload_n 0, 1) := by decide +kernel
theorem dX10_forget_6 : decode cX10_forget 6 = .ok (.iconst 0, 1) := by decide +kernel
theorem dX10_forget_7 : decode cX10_forget 7 = .ok (.putfield 76, 3) := by decide +kernel
theorem dX10_forget_10 : decode cX10_forget 10 = .ok (.iload_n 1, 1) := by decide +kernel
theorem dX10_forget_11 : decode cX10_forget 11 = .ok (.ireturn, 1) := by decide +kernel
theorem dX10_isSo_0 : decode cX10_isSo 0 = .ok (.iconst 1, 1) := by decide +kernel
theorem dX10_isSo_1 : decode cX10_isSo 1 = .ok (.istore_n 2, 1) := by decide +kernel
theorem dX10_isSo_2 : decode cX10_isSo 2 = .ok (.iconst 0, 1) := by decide +kernel
theorem dX10_isSo_3 : decode cX10_isSo 3 = .ok (.istore_n 3, 1) := by decide +kernel
theorem dX10_isSo_4 : decode cX10_isSo 4 = .ok (.iload_n 3, 1) := by decide +kernel
theorem dX10_isSo_5 : decode cX10_isSo 5 = .ok (.iconst 4, 1) := by decide +kernel
theorem dX10_isSo_6 : decode cX10_isSo 6 = .ok (.aload_n 0, 1) := by decide +kernel
theorem dX10_isSo_7 : decode cX10_isSo 7 = .ok (.getfield 76, 3) := by decide +kernel
theorem dX10_isSo_10 : decode cX10_isSo 10 = .ok (.imul, 1) := by decide +kernel
theorem dX10_isSo_11 : decode cX10_isSo 11 = .ok (.if_icmp .ge 57, 3) := by decide +kernel
theorem dX10_isSo_14 : decode cX10_isSo 14 = .ok (.iload_n 2, 1) := by decide +kernel
theorem dX10_isSo_15 : decode cX10_isSo 15 = .ok (.ifCond .eq 45, 3) := by decide +kernel
theorem dX10_isSo_18 : decode cX10_isSo 18 = .ok (.aload_n 0, 1) := by decide +kernel
theorem dX10_isSo_19 : decode cX10_isSo 19 = .ok (.aload_n 1, 1) := by decide +kernel
theorem dX10_isSo_20 : decode cX10_isSo 20 = .ok (.aload_n 0, 1) := by decide +kernel
theorem dX10_isSo_21 : decode cX10_isSo 21 = .ok (.getfield 45, 3) := by decide +kernel
theorem dX10_isSo_24 : decode cX10_isSo 24 = .ok (.iload_n 3, 1) := by decide +kernel
theorem dX10_isSo_25 : decode cX10_isSo 25 = .ok (.iaload, 1) := by decide +kernel
theorem dX10_isSo_26 : decode cX10_isSo 26 = .ok (.aload_n 0, 1) := by decide +kernel
theorem dX10_isSo_27 : decode cX10_isSo 27 = .ok (.getfield 45, 3) := by decide +kernel
theorem dX10_isSo_30 : decode cX10_isSo 30 = .ok (.iload_n 3, 1) := by decide +kernel
theorem dX10_isSo_31 : decode cX10_isSo 31 = .ok (.iconst 1, 1) := by decide +kernel
theorem dX10_isSo_32 : decode cX10_isSo 32 = .ok (.iadd, 1) := by decide +kernel
theorem dX10_isSo_33 : decode cX10_isSo 33 = .ok (.iaload, 1) := by decide +kernel
theorem dX10_isSo_34 : decode cX10_isSo 34 = .ok (.aload_n 0, 1) := by decide +kernel
theorem dX10_isSo_35 : decode cX10_isSo 35 = .ok (.getfield 45, 3) := by decide +kernel
theorem dX10_isSo_38 : decode cX10_isSo 38 = .ok (.iload_n 3, 1) := by decide +kernel
theorem dX10_isSo_39 : decode cX10_isSo 39 = .ok (.iconst 2, 1) := by decide +kernel
theorem dX10_isSo_40 : decode cX10_isSo 40 = .ok (.iadd, 1) := by decide +kernel
theorem dX10_isSo_41 : decode cX10_isSo 41 = .ok (.iaload, 1) := by decide +kernel
theorem dX10_isSo_42 : decode cX10_isSo 42 = .ok (.invokevirtual 193, 3) := by decide +kernel
theorem dX10_isSo_45 : decode cX10_isSo 45 = .ok (.aload_n 0, 1) := by decide +kernel
theorem dX10_isSo_46 : decode cX10_isSo 46 = .ok (.getfield 45, 3) := by decide +kernel
theorem dX10_isSo_49 : decode cX10_isSo 49 = .ok (.iload_n 3, 1) := by decide +kernel
theorem dX10_isSo_50 : decode cX10_isSo 50 = .ok (.iconst 3, 1) := by decide +kernel
theorem dX10_isSo_51 : decode cX10_isSo 51 = .ok (.iadd, 1) := by decide +kernel
theorem dX10_isSo_52 : decode cX10_isSo 52 = .ok (.iaload, 1) := by decide +kernel
theorem dX10_isSo_53 : decode cX10_isSo 53 = .ok (.if_icmp .ne 7, 3) := by decide +kernel
theorem dX10_isSo_56 : decode cX10_isSo 56 = .ok (.iconst 1, 1) := by decide +kernel
theorem dX10_isSo_57 : decode cX10_isSo 57 = .ok (.goto 4, 3) := by decide +kernel
theorem dX10_isSo_60 : decode cX10_isSo 60 = .ok (.iconst 0, 1) := by decide +kernel
theorem dX10_isSo_61 : decode cX10_isSo 61 = .ok (.istore_n 2, 1) := by decide +kernel
theorem dX10_isSo_62 : decode cX10_isSo 62 = .ok (.iinc 3 4, 3) := by decide +kernel
theorem dX10_isSo_65 : decode cX10_isSo 65 = .ok (.goto (-61), 3) := by decide +kernel
theorem dX10_isSo_68 : decode cX10_isSo 68 = .ok (.iload_n 2, 1) := by decide +kernel
theorem dX10_isSo_69 : decode cX10_isSo 69 = .ok (.ireturn, 1) := by decide +kernel
theorem dX10_layBroken_0 : decode cX10_layBroken 0 = .ok (.aload_n 0, 1) := by decide +kernel
theorem dX10_layBroken_1 : decode cX10_layBroken 1 = .ok (.getfield 23, 3) := by decide +kernel
theorem dX10_layBroken_4 : decode cX10_layBroken 4 = .ok (.iconst 0, 1) := by decide +kernel
theorem dX10_layBroken_5 : decode cX10_layBroken 5 = .ok (.aload_n 0, 1) := by decide +kernel
theorem dX10_layBroken_6 : decode cX10_layBroken 6 = .ok (.getfield 26, 3) := by decide +kernel
theorem dX10_layBroken_9 : decode cX10_layBroken 9 = .ok (.iconst 0, 1) := by decide +kernel
theorem dX10_layBroken_10 : decode cX10_layBroken 10 = .ok (.bipush 11, 2) := by decide +kernel
theorem dX10_layBroken_12 : decode cX10_layBroken 12 = .ok (.invokestatic 162, 3) := by decide +kernel
theorem dX10_layBroken_15 : decode cX10_layBroken 15 = .ok (.iload_n 1, 1) := by decide +kernel
theorem dX10_layBroken_16 : decode cX10_layBroken 16 = .ok (.bipush 20, 2) := by decide +kernel
theorem dX10_layBroken_18 : decode cX10_layBroken 18 = .ok (.if_icmp .ge 11, 3) := by decide +kernel
theorem dX10_layBroken_21 : decode cX10_layBroken 21 = .ok (.aload_n 0, 1) := by decide +kernel
theorem dX10_layBroken_22 : decode cX10_layBroken 22 = .ok (.getfield 26, 3) := by decide +kernel
theorem dX10_layBroken_25 : decode cX10_layBroken 25 = .ok (.iload_n 1, 1) := by decide +kernel
theorem dX10_layBroken_26 : decode cX10_layBroken 26 = .ok (.invokestatic 207, 3) := by decide +kernel
theorem dX10_layBroken_29 : decode cX10_layBroken 29 = .ok (.return_, 1) := by decide +kernel
theorem dX10_mayBe_0 : decode cX10_mayBe 0 = .ok (.iload_n 1, 1) := by decide +kernel
theorem dX10_mayBe_1 : decode cX10_mayBe 1 = .ok (.bipush 20, 2) := by decide +kernel
theorem dX10_mayBe_3 : decode cX10_mayBe 3 = .ok (.if_icmp .eq 30, 3) := by decide +kernel
theorem dX10_mayBe_6 : decode cX10_mayBe 6 = .ok (.aload_n 0, 1) := by decide +kernel
theorem dX10_mayBe_7 : decode cX10_mayBe 7 = .ok (.iload_n 1, 1) := by decide +kernel
theorem dX10_mayBe_8 : decode cX10_mayBe 8 = .ok (.iconst 4, 1) := by decide +kernel
theorem dX10_mayBe_9 : decode cX10_mayBe 9 = .ok (.idiv, 1) := by decide +kernel
theorem dX10_mayBe_10 : decode cX10_mayBe 10 = .ok (.iload_n 1, 1) := by decide +kernel
theorem dX10_mayBe_11 : decode cX10_mayBe 11 = .ok (.iconst 4, 1) := by decide +kernel
theorem dX10_mayBe_12 : decode cX10_mayBe 12 = .ok (.irem, 1) := by decide +kernel
theorem dX10_mayBe_13 : decode cX10_mayBe 13 = .ok (.invokevirtual 183, 3) := by decide +kernel
theorem dX10_mayBe_16 : decode cX10_mayBe 16 = .ok (.ifCond .eq 21, 3) := by decide +kernel
theorem dX10_mayBe_19 : decode cX10_mayBe 19 = .ok (.aload_n 0, 1) := by decide +kernel
theorem dX10_mayBe_20 : decode cX10_mayBe 20 = .ok (.getfield 23, 3) := by decide +kernel
theorem dX10_mayBe_23 : decode cX10_mayBe 23 = .ok (.bipush 8, 2) := by decide +kernel
theorem dX10_mayBe_25 : decode cX10_mayBe 25 = .ok (.iaload, 1) := by decide +kernel
theorem dX10_mayBe_26 : decode cX10_mayBe 26 = .ok (.iload_n 1, 1) := by decide +kernel
theorem dX10_mayBe_27 : decode cX10_mayBe 27 = .ok (.invokestatic 172, 3) := by decide +kernel
theorem dX10_mayBe_30 : decode cX10_mayBe 30 = .ok (.ifCond .ne 7, 3) := by decide +kernel
theorem dX10_mayBe_33 : decode cX10_mayBe 33 = .ok (.iconst 1, 1) := by decide +kernel
theorem dX10_mayBe_34 : decode cX10_mayBe 34 = .ok (.goto 4, 3) := by decide +kernel
theorem dX10_mayBe_37 : decode cX10_mayBe 37 = .ok (.iconst 0, 1) := by decide +kernel
theorem dX10_mayBe_38 : decode cX10_mayBe 38 = .ok (.ireturn, 1) := by decide +kernel
theorem dX10_suspects_0 : decode cX10_suspects 0 = .ok (.iconst 0, 1) := by decide +kernel
theorem dX10_suspects_1 : decode cX10_suspects 1 = .ok (.istore_n 1, 1) := by decide +kernel
theorem dX10_suspects_2 : decode cX10_suspects 2 = .ok (.iconst 0, 1) := by decide +kernel
theorem dX10_suspects_3 : decode cX10_suspects 3 = .ok (.istore_n 2, 1) := by decide +kernel
theorem dX10_suspects_4 : decode cX10_suspects 4 = .ok (.iload_n 2, 1) := by decide +kernel
theorem dX10_suspects_5 : decode cX10_suspects 5 = .ok (.bipush 21, 2) := by decide +kernel
theorem dX10_suspects_7 : decode cX10_suspects 7 = .ok (.if_icmp .ge 43, 3) := by decide +kernel
theorem dX10_suspects_10 : decode cX10_suspects 10 = .ok (.aload_n 0, 1) := by decide +kernel
theorem dX10_suspects_11 : decode cX10_suspects 11 = .ok (.iload_n 2, 1) := by decide +kernel
theorem dX10_suspects_12 : decode cX10_suspects 12 = .ok (.invokevirtual 269, 3) := by decide +kernel
theorem dX10_suspects_15 : decode cX10_suspects 15 = .ok (.ifCond .eq 29, 3) := by decide +kernel
theorem dX10_suspects_18 : decode cX10_suspects 18 = .ok (.aload_n 0, 1) := by decide +kernel
theorem dX10_suspects_19 : decode cX10_suspects 19 = .ok (.iload_n 2, 1) := by decide +kernel
theorem dX10_suspects_20 : decode cX10_suspects 20 = .ok (.invokevirtual 272, 3) := by decide +kernel
theorem dX10_suspects_23 : decode cX10_suspects 23 = .ok (.iload_n 1, 1) := by decide +kernel
theorem dX10_suspects_24 : decode cX10_suspects 24 = .ok (.aload_n 0, 1) := by decide +kernel
theorem dX10_suspects_25 : decode cX10_suspects 25 = .ok (.aload_n 0, 1) := by decide +kernel
theorem dX10_suspects_26 : decode cX10_suspects 26 = .ok (.getfield 26, 3) := by decide +kernel
theorem dX10_suspects_29 : decode cX10_suspects 29 = .ok (.invokevirtual 275, 3) := by decide +kernel
theorem dX10_suspects_32 : decode cX10_suspects 32 = .ok (.ifCond .eq 9, 3) := by decide +kernel
theorem dX10_suspects_35 : decode cX10_suspects 35 = .ok (.iconst 1, 1) := by decide +kernel
theorem dX10_suspects_36 : decode cX10_suspects 36 = .ok (.iload_n 2, 1) := by decide +kernel
theorem dX10_suspects_37 : decode cX10_suspects 37 = .ok (.ishl, 1) := by decide +kernel
theorem dX10_suspects_38 : decode cX10_suspects 38 = .ok (.goto 4, 3) := by decide +kernel
theorem dX10_suspects_41 : decode cX10_suspects 41 = .ok (.iconst 0, 1) := by decide +kernel
theorem dX10_suspects_42 : decode cX10_suspects 42 = .ok (.ior, 1) := by decide +kernel
theorem dX10_suspects_43 : decode cX10_suspects 43 = .ok (.istore_n 1, 1) := by decide +kernel
theorem dX10_suspects_44 : decode cX10_suspects 44 = .ok (.iinc 2 1, 3) := by decide +kernel
theorem dX10_suspects_47 : decode cX10_suspects 47 = .ok (.goto (-43), 3) := by decide +kernel
theorem dX10_suspects_50 : decode cX10_suspects 50 = .ok (.iload_n 1, 1) := by decide +kernel
theorem dX10_suspects_51 : decode cX10_suspects 51 = .ok (.ireturn, 1) := by decide +kernel
theorem dX10_glasses_0 : decode cX10_glasses 0 = .ok (.aload_n 0, 1) := by decide +kernel
theorem dX10_glasses_1 : decode cX10_glasses 1 = .ok (.iload_n 1, 1) := by decide +kernel
theorem dX10_glasses_2 : decode cX10_glasses 2 = .ok (.iload_n 2, 1) := by decide +kernel
theorem dX10_glasses_3 : decode cX10_glasses 3 = .ok (.invokevirtual 183, 3) := by decide +kernel
theorem dX10_glasses_6 : decode cX10_glasses 6 = .ok (.ifCond .ne 5, 3) := by decide +kernel
theorem dX10_glasses_9 : decode cX10_glasses 9 = .ok (.iconst (-1), 1) := by decide +kernel
theorem dX10_glasses_10 : decode cX10_glasses 10 = .ok (.ireturn, 1) := by decide +kernel
theorem dX10_glasses_11 : decode cX10_glasses 11 = .ok (.iconst 4, 1) := by decide +kernel
theorem dX10_glasses_12 : decode cX10_glasses 12 = .ok (.iload_n 1, 1) := by decide +kernel
theorem dX10_glasses_13 : decode cX10_glasses 13 = .ok (.imul, 1) := by decide +kernel
theorem dX10_glasses_14 : decode cX10_glasses 14 = .ok (.iload_n 2, 1) := by decide +kernel
theorem dX10_glasses_15 : decode cX10_glasses 15 = .ok (.iadd, 1) := by decide +kernel
theorem dX10_glasses_16 : decode cX10_glasses 16 = .ok (.istore_n 3, 1) := by decide +kernel
theorem dX10_glasses_17 : decode cX10_glasses 17 = .ok (.aload_n 0, 1) := by decide +kernel
theorem dX10_glasses_18 : decode cX10_glasses 18 = .ok (.getfield 23, 3) := by decide +kernel
theorem dX10_glasses_21 : decode cX10_glasses 21 = .ok (.iconst 0, 1) := by decide +kernel
theorem dX10_glasses_22 : decode cX10_glasses 22 = .ok (.aload_n 0, 1) := by decide +kernel
theorem dX10_glasses_23 : decode cX10_glasses 23 = .ok (.getfield 26, 3) := by decide +kernel
theorem dX10_glasses_26 : decode cX10_glasses 26 = .ok (.iconst 0, 1) := by decide +kernel
theorem dX10_glasses_27 : decode cX10_glasses 27 = .ok (.bipush 11, 2) := by decide +kernel
theorem dX10_glasses_29 : decode cX10_glasses 29 = .ok (.invokestatic 162, 3) := by decide +kernel
theorem dX10_glasses_32 : decode cX10_glasses 32 = .ok (.aload_n 0, 1) := by decide +kernel
theorem dX10_glasses_33 : decode cX10_glasses 33 = .ok (.getfield 26, 3) := by decide +kernel
theorem dX10_glasses_36 : decode cX10_glasses 36 = .ok (.bipush 8, 2) := by decide +kernel
theorem dX10_glasses_38 : decode cX10_glasses 38 = .ok (.dup2, 1) := by decide +kernel
theorem dX10_glasses_39 : decode cX10_glasses 39 = .ok (.iaload, 1) := by decide +kernel
theorem dX10_glasses_40 : decode cX10_glasses 40 = .ok (.iconst 1, 1) := by decide +kernel
theorem dX10_glasses_41 : decode cX10_glasses 41 = .ok (.iload_n 3, 1) := by decide +kernel
theorem dX10_glasses_42 : decode cX10_glasses 42 = .ok (.ishl, 1) := by decide +kernel
theorem dX10_glasses_43 : decode cX10_glasses 43 = .ok (.iconst (-1), 1) := by decide +kernel
theorem dX10_glasses_44 : decode cX10_glasses 44 = .ok (.ixor, 1) := by decide +kernel
theorem dX10_glasses_45 : decode cX10_glasses 45 = .ok (.iand, 1) := by decide +kernel
theorem dX10_glasses_46 : decode cX10_glasses 46 = .ok (.iastore, 1) := by decide +kernel
theorem dX10_glasses_47 : decode cX10_glasses 47 = .ok (.aload_n 0, 1) := by decide +kernel
theorem dX10_glasses_48 : decode cX10_glasses 48 = .ok (.getfield 16, 3) := by decide +kernel
theorem dX10_glasses_51 : decode cX10_glasses 51 = .ok (.iload_n 3, 1) := by decide +kernel
theorem dX10_glasses_52 : decode cX10_glasses 52 = .ok (.iaload, 1) := by decide +kernel
theorem dX10_glasses_53 : decode cX10_glasses 53 = .ok (.istore 4, 2) := by decide +kernel
theorem dX10_glasses_55 : decode cX10_glasses 55 = .ok (.iconst 0, 1) := by decide +kernel
theorem dX10_glasses_56 : decode cX10_glasses 56 = .ok (.istore 5, 2) := by decide +kernel
theorem dX10_glasses_58 : decode cX10_glasses 58 = .ok (.iconst 0, 1) := by decide +kernel
theorem dX10_glasses_59 : decode cX10_glasses 59 = .ok (.istore 6, 2) := by decide +kernel
theorem dX10_glasses_61 : decode cX10_glasses 61 = .ok (.iload 6, 2) := by decide +kernel
theorem dX10_glasses_63 : decode cX10_glasses 63 = .ok (.bipush 8, 2) := by decide +kernel
theorem dX10_glasses_65 : decode cX10_glasses 65 = .ok (.if_icmp .ge 41, 3) := by decide +kernel
theorem dX10_glasses_68 : decode cX10_glasses 68 = .ok (.aload_n 0, 1) := by decide +kernel
theorem dX10_glasses_69 : decode cX10_glasses 69 = .ok (.getfield 16, 3) := by decide +kernel
theorem dX10_glasses_72 : decode cX10_glasses 72 = .ok (.iload_n 3, 1) := by decide +kernel
theorem dX10_glasses_73 : decode cX10_glasses 73 = .ok (.iload 6, 2) := by decide +kernel
theorem dX10_glasses_75 : decode cX10_glasses 75 = .ok (.iastore, 1) := by decide +kernel
theorem dX10_glasses_76 : decode cX10_glasses 76 = .ok (.iload 5, 2) := by decide +kernel
theorem dX10_glasses_78 : decode cX10_glasses 78 = .ok (.aload_n 0, 1) := by decide +kernel
theorem dX10_glasses_79 : decode cX10_glasses 79 = .ok (.aload_n 0, 1) := by decide +kernel
theorem dX10_glasses_80 : decode cX10_glasses 80 = .ok (.getfield 26, 3) := by decide +kernel
theorem dX10_glasses_83 : decode cX10_glasses 83 = .ok (.invokevirtual 275, 3) := by decide +kernel
theorem dX10_glasses_86 : decode cX10_glasses 86 = .ok (.ifCond .eq 10, 3) := by decide +kernel
theorem dX10_glasses_89 : decode cX10_glasses 89 = .ok (.iconst 1, 1) := by decide +kernel
theorem dX10_glasses_90 : decode cX10_glasses 90 = .ok (.iload 6, 2) := by decide +kernel
theorem dX10_glasses_92 : decode cX10_glasses 92 = .ok (.ishl, 1) := by decide +kernel
theorem dX10_glasses_93 : decode cX10_glasses 93 = .ok (.goto 4, 3) := by decide +kernel
theorem dX10_glasses_96 : decode cX10_glasses 96 = .ok (.iconst 0, 1) := by decide +kernel
theorem dX10_glasses_97 : decode cX10_glasses 97 = .ok (.ior, 1) := by decide +kernel
theorem dX10_glasses_98 : decode cX10_glasses 98 = .ok (.istore 5, 2) := by decide +kernel
theorem dX10_glasses_100 : decode cX10_glasses 100 = .ok (.iinc 6 1, 3) := by decide +kernel
theorem dX10_glasses_103 : decode cX10_glasses 103 = .ok (.goto (-42), 3) := by decide +kernel
theorem dX10_glasses_106 : decode cX10_glasses 106 = .ok (.aload_n 0, 1) := by decide +kernel
theorem dX10_glasses_107 : decode cX10_glasses 107 = .ok (.getfield 16, 3) := by decide +kernel
theorem dX10_glasses_110 : decode cX10_glasses 110 = .ok (.iload_n 3, 1) := by decide +kernel
theorem dX10_glasses_111 : decode cX10_glasses 111 = .ok (.iload 4, 2) := by decide +kernel
theorem dX10_glasses_113 : decode cX10_glasses 113 = .ok (.iastore, 1) := by decide +kernel
theorem dX10_glasses_114 : decode cX10_glasses 114 = .ok (.iload 5, 2) := by decide +kernel
theorem dX10_glasses_116 : decode cX10_glasses 116 = .ok (.ireturn, 1) := by decide +kernel
theorem dX10_look_0 : decode cX10_look 0 = .ok (.aload_n 0, 1) := by decide +kernel
theorem dX10_look_1 : decode cX10_look 1 = .ok (.invokevirtual 279, 3) := by decide +kernel
theorem dX10_look_4 : decode cX10_look 4 = .ok (.istore_n 1, 1) := by decide +kernel
theorem dX10_look_5 : decode cX10_look 5 = .ok (.bipush (-9), 2) := by decide +kernel
theorem dX10_look_7 : decode cX10_look 7 = .ok (.istore_n 2, 1) := by decide +kernel
theorem dX10_look_8 : decode cX10_look 8 = .ok (.ldc 236, 2) := by decide +kernel
theorem dX10_look_10 : decode cX10_look 10 = .ok (.istore_n 3, 1) := by decide +kernel
theorem dX10_look_11 : decode cX10_look 11 = .ok (.iconst 0, 1) := by decide +kernel
theorem dX10_look_12 : decode cX10_look 12 = .ok (.istore 4, 2) := by decide +kernel
theorem dX10_look_14 : decode cX10_look 14 = .ok (.iload 4, 2) := by decide +kernel
theorem dX10_look_16 : decode cX10_look 16 = .ok (.sipush 672, 3) := by decide +kernel
theorem dX10_look_19 : decode cX10_look 19 = .ok (.if_icmp .ge 165, 3) := by decide +kernel
theorem dX10_look_22 : decode cX10_look 22 = .ok (.iload_n 1, 1) := by decide +kernel
theorem dX10_look_23 : decode cX10_look 23 = .ok (.ifCond .eq 161, 3) := by decide +kernel
theorem dX10_look_26 : decode cX10_look 26 = .ok (.iconst 0, 1) := by decide +kernel
theorem dX10_look_27 : decode cX10_look 27 = .ok (.istore 5, 2) := by decide +kernel
theorem dX10_look_29 : decode cX10_look 29 = .ok (.iload 5, 2) := by decide +kernel
theorem dX10_look_31 : decode cX10_look 31 = .ok (.bipush 8, 2) := by decide +kernel
theorem dX10_look_33 : decode cX10_look 33 = .ok (.if_icmp .ge 17, 3) := by decide +kernel
theorem dX10_look_36 : decode cX10_look 36 = .ok (.aload_n 0, 1) := by decide +kernel
theorem dX10_look_37 : decode cX10_look 37 = .ok (.getfield 66, 3) := by decide +kernel
theorem dX10_look_40 : decode cX10_look 40 = .ok (.iload 5, 2) := by decide +kernel
theorem dX10_look_42 : decode cX10_look 42 = .ok (.iconst 0, 1) := by decide +kernel
theorem dX10_look_43 : decode cX10_look 43 = .ok (.iastore, 1) := by decide +kernel
theorem dX10_look_44 : decode cX10_look 44 = .ok (.iinc 5 1, 3) := by decide +kernel
theorem dX10_look_47 : decode cX10_look 47 = .ok (.goto (-18), 3) := by decide +kernel
theorem dX10_look_50 : decode cX10_look 50 = .ok (.iconst 0, 1) := by decide +kernel
theorem dX10_look_51 : decode cX10_look 51 = .ok (.istore 5, 2) := by decide +kernel
theorem dX10_look_53 : decode cX10_look 53 = .ok (.iconst 0, 1) := by decide +kernel
theorem dX10_look_54 : decode cX10_look 54 = .ok (.istore 6, 2) := by decide +kernel
theorem dX10_look_56 : decode cX10_look 56 = .ok (.iload 6, 2) := by decide +kernel
theorem dX10_look_58 : decode cX10_look 58 = .ok (.bipush 21, 2) := by decide +kernel
theorem dX10_look_60 : decode cX10_look 60 = .ok (.if_icmp .ge 92, 3) := by decide +kernel
theorem dX10_look_63 : decode cX10_look 63 = .ok (.iload_n 1, 1) := by decide +kernel
theorem dX10_look_64 : decode cX10_look 64 = .ok (.iload 6, 2) := by decide +kernel
theorem dX10_look_66 : decode cX10_look 66 = .ok (.invokestatic 172, 3) := by decide +kernel
theorem dX10_look_69 : decode cX10_look 69 = .ok (.ifCond .eq 77, 3) := by decide +kernel
theorem dX10_look_72 : decode cX10_look 72 = .ok (.aload_n 0, 1) := by decide +kernel
theorem dX10_look_73 : decode cX10_look 73 = .ok (.iload 6, 2) := by decide +kernel
theorem dX10_look_75 : decode cX10_look 75 = .ok (.invokevirtual 272, 3) := by decide +kernel
theorem dX10_look_78 : decode cX10_look 78 = .ok (.aload_n 0, 1) := by decide +kernel
theorem dX10_look_79 : decode cX10_look 79 = .ok (.aload_n 0, 1) := by decide +kernel
theorem dX10_look_80 : decode cX10_look 80 = .ok (.getfield 26, 3) := by decide +kernel
theorem dX10_look_83 : decode cX10_look 83 = .ok (.iload 4, 2) := by decide +kernel
theorem dX10_look_85 : decode cX10_look 85 = .ok (.bipush 8, 2) := by decide +kernel
theorem dX10_look_87 : decode cX10_look 87 = .ok (.idiv, 1) := by decide +kernel
theorem dX10_look_88 : decode cX10_look 88 = .ok (.bipush 7, 2) := by decide +kernel
theorem dX10_look_90 : decode cX10_look 90 = .ok (.idiv, 1) := by decide +kernel
theorem dX10_look_91 : decode cX10_look 91 = .ok (.iload 4, 2) := by decide +kernel
theorem dX10_look_93 : decode cX10_look 93 = .ok (.bipush 8, 2) := by decide +kernel
theorem dX10_look_95 : decode cX10_look 95 = .ok (.idiv, 1) := by decide +kernel
theorem dX10_look_96 : decode cX10_look 96 = .ok (.bipush 7, 2) := by decide +kernel
theorem dX10_look_98 : decode cX10_look 98 = .ok (.irem, 1) := by decide +kernel
theorem dX10_look_99 : decode cX10_look 99 = .ok (.iload 4, 2) := by decide +kernel
theorem dX10_look_101 : decode cX10_look 101 = .ok (.bipush 8, 2) := by decide +kernel
theorem dX10_look_103 : decode cX10_look 103 = .ok (.irem, 1) := by decide +kernel
theorem dX10_look_104 : decode cX10_look 104 = .ok (.invokevirtual 193, 3) := by decide +kernel
theorem dX10_look_107 : decode cX10_look 107 = .ok (.istore 7, 2) := by decide +kernel
theorem dX10_look_109 : decode cX10_look 109 = .ok (.aload_n 0, 1) := by decide +kernel
theorem dX10_look_110 : decode cX10_look 110 = .ok (.getfield 66, 3) := by decide +kernel
theorem dX10_look_113 : decode cX10_look 113 = .ok (.iload 7, 2) := by decide +kernel
theorem dX10_look_115 : decode cX10_look 115 = .ok (.dup2, 1) := by decide +kernel
theorem dX10_look_116 : decode cX10_look 116 = .ok (.iaload, 1) := by decide +kernel
theorem dX10_look_117 : decode cX10_look 117 = .ok (.iconst 1, 1) := by decide +kernel
theorem dX10_look_118 : decode cX10_look 118 = .ok (.iadd, 1) := by decide +kernel
theorem dX10_look_119 : decode cX10_look 119 = .ok (.iastore, 1) := by decide +kernel
theorem dX10_look_120 : decode cX10_look 120 = .ok (.aload_n 0, 1) := by decide +kernel
theorem dX10_look_121 : decode cX10_look 121 = .ok (.getfield 66, 3) := by decide +kernel
theorem dX10_look_124 : decode cX10_look 124 = .ok (.iload 7, 2) := by decide +kernel
theorem dX10_look_126 : decode cX10_look 126 = .ok (.iaload, 1) := by decide +kernel
theorem dX10_look_127 : decode cX10_look 127 = .ok (.iload 5, 2) := by decide +kernel
theorem dX10_look_129 : decode cX10_look 129 = .ok (.if_icmp .le 13, 3) := by decide +kernel
theorem dX10_look_132 : decode cX10_look 132 = .ok (.aload_n 0, 1) := by decide +kernel
theorem dX10_look_133 : decode cX10_look 133 = .ok (.getfield 66, 3) := by decide +kernel
theorem dX10_look_136 : decode cX10_look 136 = .ok (.iload 7, 2) := by decide +kernel
theorem dX10_look_138 : decode cX10_look 138 = .ok (.iaload, 1) := by decide +kernel
theorem dX10_look_139 : decode cX10_look 139 = .ok (.goto 5, 3) := by decide +kernel
theorem dX10_look_142 : decode cX10_look 142 = .ok (.iload 5, 2) := by decide +kernel
theorem dX10_look_144 : decode cX10_look 144 = .ok (.istore 5, 2) := by decide +kernel
theorem dX10_look_146 : decode cX10_look 146 = .ok (.iinc 6 1, 3) := by decide +kernel
theorem dX10_look_149 : decode cX10_look 149 = .ok (.goto (-93), 3) := by decide +kernel
theorem dX10_look_152 : decode cX10_look 152 = .ok (.iload 5, 2) := by decide +kernel
theorem dX10_look_154 : decode cX10_look 154 = .ok (.iload_n 3, 1) := by decide +kernel
theorem dX10_look_155 : decode cX10_look 155 = .ok (.if_icmp .ge 8, 3) := by decide +kernel
theorem dX10_look_158 : decode cX10_look 158 = .ok (.iload 4, 2) := by decide +kernel
theorem dX10_look_160 : decode cX10_look 160 = .ok (.goto 4, 3) := by decide +kernel
theorem dX10_look_163 : decode cX10_look 163 = .ok (.iload_n 2, 1) := by decide +kernel
theorem dX10_look_164 : decode cX10_look 164 = .ok (.istore_n 2, 1) := by decide +kernel
theorem dX10_look_165 : decode cX10_look 165 = .ok (.iload 5, 2) := by decide +kernel
theorem dX10_look_167 : decode cX10_look 167 = .ok (.iload_n 3, 1) := by decide +kernel
theorem dX10_look_168 : decode cX10_look 168 = .ok (.if_icmp .ge 8, 3) := by decide +kernel
theorem dX10_look_171 : decode cX10_look 171 = .ok (.iload 5, 2) := by decide +kernel
theorem dX10_look_173 : decode cX10_look 173 = .ok (.goto 4, 3) := by decide +kernel
theorem dX10_look_176 : decode cX10_look 176 = .ok (.iload_n 3, 1) := by decide +kernel
theorem dX10_look_177 : decode cX10_look 177 = .ok (.istore_n 3, 1) := by decide +kernel
theorem dX10_look_178 : decode cX10_look 178 = .ok (.iinc 4 1, 3) := by decide +kernel
theorem dX10_look_181 : decode cX10_look 181 = .ok (.goto (-167), 3) := by decide +kernel
theorem dX10_look_184 : decode cX10_look 184 = .ok (.iload_n 2, 1) := by decide +kernel
theorem dX10_look_185 : decode cX10_look 185 = .ok (.ireturn, 1) := by decide +kernel
theorem dX10_mark_0 : decode cX10_mark 0 = .ok (.iload_n 1, 1) := by decide +kernel
theorem dX10_mark_1 : decode cX10_mark 1 = .ok (.i2l, 1) := by decide +kernel
theorem dX10_mark_2 : decode cX10_mark 2 = .ok (.lconst 0, 1) := by decide +kernel
theorem dX10_mark_3 : decode cX10_mark 3 = .ok (.ldc2_w 282, 3) := by decide +kernel
theorem dX10_mark_6 : decode cX10_mark 6 = .ok (.invokestatic 81, 3) := by decide +kernel
theorem dX10_mark_9 : decode cX10_mark 9 = .ok (.ifCond .eq 12, 3) := by decide +kernel
theorem dX10_mark_12 : decode cX10_mark 12 = .ok (.aload_n 0, 1) := by decide +kernel
theorem dX10_mark_13 : decode cX10_mark 13 = .ok (.iload_n 2, 1) := by decide +kernel
theorem dX10_mark_14 : decode cX10_mark 14 = .ok (.iload_n 3, 1) := by decide +kernel
theorem dX10_mark_15 : decode cX10_mark 15 = .ok (.invokevirtual 183, 3) := by decide +kernel
theorem dX10_mark_18 : decode cX10_mark 18 = .ok (.ifCond .ne 7, 3) := by decide +kernel
theorem dX10_mark_21 : decode cX10_mark 21 = .ok (.ldc_w 284, 3) := by decide +kernel
theorem dX10_mark_24 : decode cX10_mark 24 = .ok (.ireturn, 1) := by decide +kernel
theorem dX10_mark_25 : decode cX10_mark 25 = .ok (.iconst 4, 1) := by decide +kernel
theorem dX10_mark_26 : decode cX10_mark 26 = .ok (.iload_n 2, 1) := by decide +kernel
theorem dX10_mark_27 : decode cX10_mark 27 = .ok (.imul, 1) := by decide +kernel
theorem dX10_mark_28 : decode cX10_mark 28 = .ok (.iload_n 3, 1) := by decide +kernel
theorem dX10_mark_29 : decode cX10_mark 29 = .ok (.iadd, 1) := by decide +kernel
theorem dX10_mark_30 : decode cX10_mark 30 = .ok (.istore 4, 2) := by decide +kernel
theorem dX10_mark_32 : decode cX10_mark 32 = .ok (.aload_n 0, 1) := by decide +kernel
theorem dX10_mark_33 : decode cX10_mark 33 = .ok (.aload_n 0, 1) := by decide +kernel
theorem dX10_mark_34 : decode cX10_mark 34 = .ok (.getfield 23, 3) := by decide +kernel
theorem dX10_mark_37 : decode cX10_mark 37 = .ok (.iload 4, 2) := by decide +kernel
theorem dX10_mark_39 : decode cX10_mark 39 = .ok (.invokevirtual 190, 3) := by decide +kernel
theorem dX10_mark_42 : decode cX10_mark 42 = .ok (.istore 5, 2) := by decide +kernel
theorem dX10_mark_44 : decode cX10_mark 44 = .ok (.iload 5, 2) := by decide +kernel
theorem dX10_mark_46 : decode cX10_mark 46 = .ok (.aload_n 0, 1) := by decide +kernel
theorem dX10_mark_47 : decode cX10_mark 47 = .ok (.aload_n 0, 1) := by decide +kernel
theorem dX10_mark_48 : decode cX10_mark 48 = .ok (.getfield 23, 3) := by decide +kernel
theorem dX10_mark_51 : decode cX10_mark 51 = .ok (.iload 4, 2) := by decide +kernel
theorem dX10_mark_53 : decode cX10_mark 53 = .ok (.invokevirtual 175, 3) := by decide +kernel
theorem dX10_mark_56 : decode cX10_mark 56 = .ok (.invokestatic 201, 3) := by decide +kernel
theorem dX10_mark_59 : decode cX10_mark 59 = .ok (.iadd, 1) := by decide +kernel
theorem dX10_mark_60 : decode cX10_mark 60 = .ok (.istore 6, 2) := by decide +kernel
theorem dX10_mark_62 : decode cX10_mark 62 = .ok (.iload_n 1, 1) := by decide +kernel
theorem dX10_mark_63 : decode cX10_mark 63 = .ok (.tableswitch 115 0 4 #[33, 46, 61, 78, 95], 33) := by decide +kernel
theorem dX10_mark_96 : decode cX10_mark 96 = .ok (.aload_n 0, 1) := by decide +kernel
theorem dX10_mark_97 : decode cX10_mark 97 = .ok (.dup, 1) := by decide +kernel
theorem dX10_mark_98 : decode cX10_mark 98 = .ok (.getfield 285, 3) := by decide +kernel
theorem dX10_mark_101 : decode cX10_mark 101 = .ok (.lconst 1, 1) := by decide +kernel
theorem dX10_mark_102 : decode cX10_mark 102 = .ok (.ladd, 1) := by decide +kernel
theorem dX10_mark_103 : decode cX10_mark 103 = .ok (.putfield 285, 3) := by decide +kernel
theorem dX10_mark_106 : decode cX10_mark 106 = .ok (.iload 5, 2) := by decide +kernel
theorem dX10_mark_108 : decode cX10_mark 108 = .ok (.ireturn, 1) := by decide +kernel
theorem dX10_mark_109 : decode cX10_mark 109 = .ok (.aload_n 0, 1) := by decide +kernel
theorem dX10_mark_110 : decode cX10_mark 110 = .ok (.dup, 1) := by decide +kernel
theorem dX10_mark_111 : decode cX10_mark 111 = .ok (.getfield 285, 3) := by decide +kernel
theorem dX10_mark_114 : decode cX10_mark 114 = .ok (.ldc2_w 166, 3) := by decide +kernel
theorem dX10_mark_117 : decode cX10_mark 117 = .ok (.ladd, 1) := by decide +kernel
theorem dX10_mark_118 : decode cX10_mark 118 = .ok (.putfield 285, 3) := by decide +kernel
theorem dX10_mark_121 : decode cX10_mark 121 = .ok (.iload 6, 2) := by decide +kernel
theorem dX10_mark_123 : decode cX10_mark 123 = .ok (.ireturn, 1) := by decide +kernel
theorem dX10_mark_124 : decode cX10_mark 124 = .ok (.aload_n 0, 1) := by decide +kernel
theorem dX10_mark_125 : decode cX10_mark 125 = .ok (.dup, 1) := by decide +kernel
theorem dX10_mark_126 : decode cX10_mark 126 = .ok (.getfield 285, 3) := by decide +kernel
theorem dX10_mark_129 : decode cX10_mark 129 = .ok (.ldc2_w 289, 3) := by decide +kernel
theorem dX10_mark_132 : decode cX10_mark 132 = .ok (.ladd, 1) := by decide +kernel
theorem dX10_mark_133 : decode cX10_mark 133 = .ok (.putfield 285, 3) := by decide +kernel
theorem dX10_mark_136 : decode cX10_mark 136 = .ok (.iload 5, 2) := by decide +kernel
theorem dX10_mark_138 : decode cX10_mark 138 = .ok (.iload_n 3, 1) := by decide +kernel
theorem dX10_mark_139 : decode cX10_mark 139 = .ok (.isub, 1) := by decide +kernel
theorem dX10_mark_140 : decode cX10_mark 140 = .ok (.ireturn, 1) := by decide +kernel
theorem dX10_mark_141 : decode cX10_mark 141 = .ok (.aload_n 0, 1) := by decide +kernel
theorem dX10_mark_142 : decode cX10_mark 142 = .ok (.dup, 1) := by decide +kernel
theorem dX10_mark_143 : decode cX10_mark 143 = .ok (.getfield 285, 3) := by decide +kernel
theorem dX10_mark_146 : decode cX10_mark 146 = .ok (.ldc2_w 291, 3) := by decide +kernel
theorem dX10_mark_149 : decode cX10_mark 149 = .ok (.ladd, 1) := by decide +kernel
theorem dX10_mark_150 : decode cX10_mark 150 = .ok (.putfield 285, 3) := by decide +kernel
theorem dX10_mark_153 : decode cX10_mark 153 = .ok (.iconst 2, 1) := by decide +kernel
theorem dX10_mark_154 : decode cX10_mark 154 = .ok (.iload 6, 2) := by decide +kernel
theorem dX10_mark_156 : decode cX10_mark 156 = .ok (.imul, 1) := by decide +kernel
theorem dX10_mark_157 : decode cX10_mark 157 = .ok (.ireturn, 1) := by decide +kernel
theorem dX10_mark_158 : decode cX10_mark 158 = .ok (.aload_n 0, 1) := by decide +kernel
theorem dX10_mark_159 : decode cX10_mark 159 = .ok (.dup, 1) := by decide +kernel
theorem dX10_mark_160 : decode cX10_mark 160 = .ok (.getfield 285, 3) := by decide +kernel
theorem dX10_mark_163 : decode cX10_mark 163 = .ok (.ldc2_w 293, 3) := by decide +kernel
theorem dX10_mark_166 : decode cX10_mark 166 = .ok (.ladd, 1) := by decide +kernel
theorem dX10_mark_167 : decode cX10_mark 167 = .ok (.putfield 285, 3) := by decide +kernel
theorem dX10_mark_170 : decode cX10_mark 170 = .ok (.iload 5, 2) := by decide +kernel
theorem dX10_mark_172 : decode cX10_mark 172 = .ok (.iload_n 3, 1) := by decide +kernel
theorem dX10_mark_173 : decode cX10_mark 173 = .ok (.isub, 1) := by decide +kernel
theorem dX10_mark_174 : decode cX10_mark 174 = .ok (.iload 4, 2) := by decide +kernel
theorem dX10_mark_176 : decode cX10_mark 176 = .ok (.iadd, 1) := by decide +kernel
theorem dX10_mark_177 : decode cX10_mark 177 = .ok (.ireturn, 1) := by decide +kernel
theorem dX10_mark_178 : decode cX10_mark 178 = .ok (.aload_n 0, 1) := by decide +kernel
theorem dX10_mark_179 : decode cX10_mark 179 = .ok (.dup, 1) := by decide +kernel
theorem dX10_mark_180 : decode cX10_mark 180 = .ok (.getfield 285, 3) := by decide +kernel
theorem dX10_mark_183 : decode cX10_mark 183 = .ok (.ldc2_w 295, 3) := by decide +kernel
theorem dX10_mark_186 : decode cX10_mark 186 = .ok (.ladd, 1) := by decide +kernel
theorem dX10_mark_187 : decode cX10_mark 187 = .ok (.putfield 285, 3) := by decide +kernel
theorem dX10_mark_190 : decode cX10_mark 190 = .ok (.iload 5, 2) := by decide +kernel
theorem dX10_mark_192 : decode cX10_mark 192 = .ok (.aload_n 0, 1) := by decide +kernel
theorem dX10_mark_193 : decode cX10_mark 193 = .ok (.getfield 23, 3) := by decide +kernel
theorem dX10_mark_196 : decode cX10_mark 196 = .ok (.bipush 9, 2) := by decide +kernel
theorem dX10_mark_198 : decode cX10_mark 198 = .ok (.iaload, 1) := by decide +kernel
theorem dX10_mark_199 : decode cX10_mark 199 = .ok (.iadd, 1) := by decide +kernel
theorem dX10_mark_200 : decode cX10_mark 200 = .ok (.ireturn, 1) := by decide +kernel
theorem dX10_keep_0 : decode cX10_keep 0 = .ok (.iload_n 1, 1) := by decide +kernel
theorem dX10_keep_1 : decode cX10_keep 1 = .ok (.i2l, 1) := by decide +kernel
theorem dX10_keep_2 : decode cX10_keep 2 = .ok (.lconst 0, 1) := by decide +kernel
theorem dX10_keep_3 : decode cX10_keep 3 = .ok (.lconst 1, 1) := by decide +kernel
theorem dX10_keep_4 : decode cX10_keep 4 = .ok (.invokestatic 81, 3) := by decide +kernel
theorem dX10_keep_7 : decode cX10_keep 7 = .ok (.ifCond .ne 5, 3) := by decide +kernel
theorem dX10_keep_10 : decode cX10_keep 10 = .ok (.iconst (-1), 1) := by decide +kernel
theorem dX10_keep_11 : decode cX10_keep 11 = .ok (.ireturn, 1) := by decide +kernel
theorem dX10_keep_12 : decode cX10_keep 12 = .ok (.aload_n 0, 1) := by decide +kernel
theorem dX10_keep_13 : decode cX10_keep 13 = .ok (.getfield 23, 3) := by decide +kernel
theorem dX10_keep_16 : decode cX10_keep 16 = .ok (.iconst 0, 1) := by decide +kernel
theorem dX10_keep_17 : decode cX10_keep 17 = .ok (.aload_n 0, 1) := by decide +kernel
theorem dX10_keep_18 : decode cX10_keep 18 = .ok (.getfield 32, 3) := by decide +kernel
theorem dX10_keep_21 : decode cX10_keep 21 = .ok (.bipush 11, 2) := by decide +kernel
theorem dX10_keep_23 : decode cX10_keep 23 = .ok (.iload_n 1, 1) := by decide +kernel
theorem dX10_keep_24 : decode cX10_keep 24 = .ok (.imul, 1) := by decide +kernel
theorem dX10_keep_25 : decode cX10_keep 25 = .ok (.bipush 11, 2) := by decide +kernel
theorem dX10_keep_27 : decode cX10_keep 27 = .ok (.invokestatic 162, 3) := by decide +kernel
theorem dX10_keep_30 : decode cX10_keep 30 = .ok (.aload_n 0, 1) := by decide +kernel
theorem dX10_keep_31 : decode cX10_keep 31 = .ok (.getfield 29, 3) := by decide +kernel
theorem dX10_keep_34 : decode cX10_keep 34 = .ok (.iconst 0, 1) := by decide +kernel
theorem dX10_keep_35 : decode cX10_keep 35 = .ok (.aload_n 0, 1) := by decide +kernel
theorem dX10_keep_36 : decode cX10_keep 36 = .ok (.getfield 35, 3) := by decide +kernel
theorem dX10_keep_39 : decode cX10_keep 39 = .ok (.bipush 110, 2) := by decide +kernel
theorem dX10_keep_41 : decode cX10_keep 41 = .ok (.iload_n 1, 1) := by decide +kernel
theorem dX10_keep_42 : decode cX10_keep 42 = .ok (.imul, 1) := by decide +kernel
theorem dX10_keep_43 : decode cX10_keep 43 = .ok (.bipush 110, 2) := by decide +kernel
theorem dX10_keep_45 : decode cX10_keep 45 = .ok (.invokestatic 162, 3) := by decide +kernel
theorem dX10_keep_48 : decode cX10_keep 48 = .ok (.aload_n 0, 1) := by decide +kernel
theorem dX10_keep_49 : decode cX10_keep 49 = .ok (.getfield 38, 3) := by decide +kernel
theorem dX10_keep_52 : decode cX10_keep 52 = .ok (.iload_n 1, 1) := by decide +kernel
theorem dX10_keep_53 : decode cX10_keep 53 = .ok (.aload_n 0, 1) := by decide +kernel
theorem dX10_keep_54 : decode cX10_keep 54 = .ok (.getfield 73, 3) := by decide +kernel
theorem dX10_keep_57 : decode cX10_keep 57 = .ok (.iastore, 1) := by decide +kernel
theorem dX10_keep_58 : decode cX10_keep 58 = .ok (.aload_n 0, 1) := by decide +kernel
theorem dX10_keep_59 : decode cX10_keep 59 = .ok (.getfield 41, 3) := by decide +kernel
theorem dX10_keep_62 : decode cX10_keep 62 = .ok (.iload_n 1, 1) := by decide +kernel
theorem dX10_keep_63 : decode cX10_keep 63 = .ok (.iconst 1, 1) := by decide +kernel
theorem dX10_keep_64 : decode cX10_keep 64 = .ok (.bastore, 1) := by decide +kernel
theorem dX10_keep_65 : decode cX10_keep 65 = .ok (.aload_n 0, 1) := by decide +kernel
theorem dX10_keep_66 : decode cX10_keep 66 = .ok (.getfield 23, 3) := by decide +kernel
theorem dX10_keep_69 : decode cX10_keep 69 = .ok (.bipush 8, 2) := by decide +kernel
theorem dX10_keep_71 : decode cX10_keep 71 = .ok (.iaload, 1) := by decide +kernel
theorem dX10_keep_72 : decode cX10_keep 72 = .ok (.invokestatic 201, 3) := by decide +kernel
theorem dX10_keep_75 : decode cX10_keep 75 = .ok (.ireturn, 1) := by decide +kernel
theorem dX10_back_0 : decode cX10_back 0 = .ok (.iload_n 1, 1) := by decide +kernel
theorem dX10_back_1 : decode cX10_back 1 = .ok (.i2l, 1) := by decide +kernel
theorem dX10_back_2 : decode cX10_back 2 = .ok (.lconst 0, 1) := by decide +kernel
theorem dX10_back_3 : decode cX10_back 3 = .ok (.lconst 1, 1) := by decide +kernel
theorem dX10_back_4 : decode cX10_back 4 = .ok (.invokestatic 81, 3) := by decide +kernel
theorem dX10_back_7 : decode cX10_back 7 = .ok (.ifCond .ne 5, 3) := by decide +kernel
theorem dX10_back_10 : decode cX10_back 10 = .ok (.iconst (-1), 1) := by decide +kernel
theorem dX10_back_11 : decode cX10_back 11 = .ok (.ireturn, 1) := by decide +kernel
theorem dX10_back_12 : decode cX10_back 12 = .ok (.aload_n 0, 1) := by decide +kernel
theorem dX10_back_13 : decode cX10_back 13 = .ok (.getfield 41, 3) := by decide +kernel
theorem dX10_back_16 : decode cX10_back 16 = .ok (.iload_n 1, 1) := by decide +kernel
theorem dX10_back_17 : decode cX10_back 17 = .ok (.baload, 1) := by decide +kernel
theorem dX10_back_18 : decode cX10_back 18 = .ok (.ifCond .ne 6, 3) := by decide +kernel
theorem dX10_back_21 : decode cX10_back 21 = .ok (.bipush (-2), 2) := by decide +kernel
theorem dX10_back_23 : decode cX10_back 23 = .ok (.ireturn, 1) := by decide +kernel
theorem dX10_back_24 : decode cX10_back 24 = .ok (.aload_n 0, 1) := by decide +kernel
theorem dX10_back_25 : decode cX10_back 25 = .ok (.getfield 32, 3) := by decide +kernel
theorem dX10_back_28 : decode cX10_back 28 = .ok (.bipush 11, 2) := by decide +kernel
theorem dX10_back_30 : decode cX10_back 30 = .ok (.iload_n 1, 1) := by decide +kernel
theorem dX10_back_31 : decode cX10_back 31 = .ok (.imul, 1) := by decide +kernel
theorem dX10_back_32 : decode cX10_back 32 = .ok (.aload_n 0, 1) := by decide +kernel
theorem dX10_back_33 : decode cX10_back 33 = .ok (.getfield 23, 3) := by decide +kernel
theorem dX10_back_36 : decode cX10_back 36 = .ok (.iconst 0, 1) := by decide +kernel
theorem dX10_back_37 : decode cX10_back 37 = .ok (.bipush 11, 2) := by decide +kernel
theorem dX10_back_39 : decode cX10_back 39 = .ok (.invokestatic 162, 3) := by decide +kernel
theorem dX10_back_42 : decode cX10_back 42 = .ok (.aload_n 0, 1) := by decide +kernel
theorem dX10_back_43 : decode cX10_back 43 = .ok (.getfield 35, 3) := by decide +kernel
theorem dX10_back_46 : decode cX10_back 46 = .ok (.bipush 110, 2) := by decide +kernel
theorem dX10_back_48 : decode cX10_back 48 = .ok (.iload_n 1, 1) := by decide +kernel
theorem dX10_back_49 : decode cX10_back 49 = .ok (.imul, 1) := by decide +kernel
theorem dX10_back_50 : decode cX10_back 50 = .ok (.aload_n 0, 1) := by decide +kernel
theorem dX10_back_51 : decode cX10_back 51 = .ok (.getfield 29, 3) := by decide +kernel
theorem dX10_back_54 : decode cX10_back 54 = .ok (.iconst 0, 1) := by decide +kernel
theorem dX10_back_55 : decode cX10_back 55 = .ok (.bipush 110, 2) := by decide +kernel
theorem dX10_back_57 : decode cX10_back 57 = .ok (.invokestatic 162, 3) := by decide +kernel
theorem dX10_back_60 : decode cX10_back 60 = .ok (.aload_n 0, 1) := by decide +kernel
theorem dX10_back_61 : decode cX10_back 61 = .ok (.aload_n 0, 1) := by decide +kernel
theorem dX10_back_62 : decode cX10_back 62 = .ok (.getfield 38, 3) := by decide +kernel
theorem dX10_back_65 : decode cX10_back 65 = .ok (.iload_n 1, 1) := by decide +kernel
theorem dX10_back_66 : decode cX10_back 66 = .ok (.iaload, 1) := by decide +kernel
theorem dX10_back_67 : decode cX10_back 67 = .ok (.putfield 73, 3) := by decide +kernel
theorem dX10_back_70 : decode cX10_back 70 = .ok (.aload_n 0, 1) := by decide +kernel
theorem dX10_back_71 : decode cX10_back 71 = .ok (.getfield 23, 3) := by decide +kernel
theorem dX10_back_74 : decode cX10_back 74 = .ok (.bipush 8, 2) := by decide +kernel
theorem dX10_back_76 : decode cX10_back 76 = .ok (.iaload, 1) := by decide +kernel
theorem dX10_back_77 : decode cX10_back 77 = .ok (.invokestatic 201, 3) := by decide +kernel
theorem dX10_back_80 : decode cX10_back 80 = .ok (.ireturn, 1) := by decide +kernel
theorem dX10_count_0 : decode cX10_count 0 = .ok (.iload_n 1, 1) := by decide +kernel
theorem dX10_count_1 : decode cX10_count 1 = .ok (.tableswitch 69 0 5 #[39, 44, 49, 54, 59, 64], 39) := by decide +kernel
theorem dX10_count_40 : decode cX10_count 40 = .ok (.aload_n 0, 1) := by decide +kernel
theorem dX10_count_41 : decode cX10_count 41 = .ok (.getfield 7, 3) := by decide +kernel
theorem dX10_count_44 : decode cX10_count 44 = .ok (.ireturn, 1) := by decide +kernel
theorem dX10_count_45 : decode cX10_count 45 = .ok (.aload_n 0, 1) := by decide +kernel
theorem dX10_count_46 : decode cX10_count 46 = .ok (.getfield 13, 3) := by decide +kernel
theorem dX10_count_49 : decode cX10_count 49 = .ok (.ireturn, 1) := by decide +kernel
theorem dX10_count_50 : decode cX10_count 50 = .ok (.aload_n 0, 1) := by decide +kernel
theorem dX10_count_51 : decode cX10_count 51 = .ok (.getfield 159, 3) := by decide +kernel
theorem dX10_count_54 : decode cX10_count 54 = .ok (.ireturn, 1) := by decide +kernel
theorem dX10_count_55 : decode cX10_count 55 = .ok (.aload_n 0, 1) := by decide +kernel
theorem dX10_count_56 : decode cX10_count 56 = .ok (.getfield 76, 3) := by decide +kernel
theorem dX10_count_59 : decode cX10_count 59 = .ok (.ireturn, 1) := by decide +kernel
theorem dX10_count_60 : decode cX10_count 60 = .ok (.aload_n 0, 1) := by decide +kernel
theorem dX10_count_61 : decode cX10_count 61 = .ok (.getfield 73, 3) := by decide +kernel
theorem dX10_count_64 : decode cX10_count 64 = .ok (.ireturn, 1) := by decide +kernel
theorem dX10_count_65 : decode cX10_count 65 = .ok (.aload_n 0, 1) := by decide +kernel
theorem dX10_count_66 : decode cX10_count 66 = .ok (.getfield 85, 3) := by decide +kernel
theorem dX10_count_69 : decode cX10_count 69 = .ok (.ireturn, 1) := by decide +kernel
theorem dX10_count_70 : decode cX10_count 70 = .ok (.iconst (-1), 1) := by decide +kernel
theorem dX10_count_71 : decode cX10_count 71 = .ok (.ireturn, 1) := by decide +kernel
theorem dX10_trace_0 : decode cX10_trace 0 = .ok (.aload_n 0, 1) := by decide +kernel
theorem dX10_trace_1 : decode cX10_trace 1 = .ok (.getfield 285, 3) := by decide +kernel
theorem dX10_trace_4 : decode cX10_trace 4 = .ok (.lreturn, 1) := by decide +kernel
theorem dJ6_bitCount_0f7a4_0 : decode cJ6_bitCount_0f7a4 0 = .ok (.iload_n 0, 1) := by decide +kernel
theorem dJ6_bitCount_0f7a4_1 : decode cJ6_bitCount_0f7a4 1 = .ok (.iload_n 0, 1) := by decide +kernel
theorem dJ6_bitCount_0f7a4_2 : decode cJ6_bitCount_0f7a4 2 = .ok (.iconst 1, 1) := by decide +kernel
theorem dJ6_bitCount_0f7a4_3 : decode cJ6_bitCount_0f7a4 3 = .ok (.iushr, 1) := by decide +kernel
theorem dJ6_bitCount_0f7a4_4 : decode cJ6_bitCount_0f7a4 4 = .ok (.ldc_w 265, 3) := by decide +kernel
theorem dJ6_bitCount_0f7a4_7 : decode cJ6_bitCount_0f7a4 7 = .ok (.iand, 1) := by decide +kernel
theorem dJ6_bitCount_0f7a4_8 : decode cJ6_bitCount_0f7a4 8 = .ok (.isub, 1) := by decide +kernel
theorem dJ6_bitCount_0f7a4_9 : decode cJ6_bitCount_0f7a4 9 = .ok (.istore_n 0, 1) := by decide +kernel
theorem dJ6_bitCount_0f7a4_10 : decode cJ6_bitCount_0f7a4 10 = .ok (.iload_n 0, 1) := by decide +kernel
theorem dJ6_bitCount_0f7a4_11 : decode cJ6_bitCount_0f7a4 11 = .ok (.ldc_w 266, 3) := by decide +kernel
theorem dJ6_bitCount_0f7a4_14 : decode cJ6_bitCount_0f7a4 14 = .ok (.iand, 1) := by decide +kernel
theorem dJ6_bitCount_0f7a4_15 : decode cJ6_bitCount_0f7a4 15 = .ok (.iload_n 0, 1) := by decide +kernel
theorem dJ6_bitCount_0f7a4_16 : decode cJ6_bitCount_0f7a4 16 = .ok (.iconst 2, 1) := by decide +kernel
theorem dJ6_bitCount_0f7a4_17 : decode cJ6_bitCount_0f7a4 17 = .ok (.iushr, 1) := by decide +kernel
theorem dJ6_bitCount_0f7a4_18 : decode cJ6_bitCount_0f7a4 18 = .ok (.ldc_w 266, 3) := by decide +kernel
theorem dJ6_bitCount_0f7a4_21 : decode cJ6_bitCount_0f7a4 21 = .ok (.iand, 1) := by decide +kernel
theorem dJ6_bitCount_0f7a4_22 : decode cJ6_bitCount_0f7a4 22 = .ok (.iadd, 1) := by decide +kernel
theorem dJ6_bitCount_0f7a4_23 : decode cJ6_bitCount_0f7a4 23 = .ok (.istore_n 0, 1) := by decide +kernel
theorem dJ6_bitCount_0f7a4_24 : decode cJ6_bitCount_0f7a4 24 = .ok (.iload_n 0, 1) := by decide +kernel
theorem dJ6_bitCount_0f7a4_25 : decode cJ6_bitCount_0f7a4 25 = .ok (.iload_n 0, 1) := by decide +kernel
theorem dJ6_bitCount_0f7a4_26 : decode cJ6_bitCount_0f7a4 26 = .ok (.iconst 4, 1) := by decide +kernel
theorem dJ6_bitCount_0f7a4_27 : decode cJ6_bitCount_0f7a4 27 = .ok (.iushr, 1) := by decide +kernel
theorem dJ6_bitCount_0f7a4_28 : decode cJ6_bitCount_0f7a4 28 = .ok (.iadd, 1) := by decide +kernel
theorem dJ6_bitCount_0f7a4_29 : decode cJ6_bitCount_0f7a4 29 = .ok (.ldc_w 267, 3) := by decide +kernel
theorem dJ6_bitCount_0f7a4_32 : decode cJ6_bitCount_0f7a4 32 = .ok (.iand, 1) := by decide +kernel
theorem dJ6_bitCount_0f7a4_33 : decode cJ6_bitCount_0f7a4 33 = .ok (.istore_n 0, 1) := by decide +kernel
theorem dJ6_bitCount_0f7a4_34 : decode cJ6_bitCount_0f7a4 34 = .ok (.iload_n 0, 1) := by decide +kernel
theorem dJ6_bitCount_0f7a4_35 : decode cJ6_bitCount_0f7a4 35 = .ok (.iload_n 0, 1) := by decide +kernel
theorem dJ6_bitCount_0f7a4_36 : decode cJ6_bitCount_0f7a4 36 = .ok (.bipush 8, 2) := by decide +kernel
theorem dJ6_bitCount_0f7a4_38 : decode cJ6_bitCount_0f7a4 38 = .ok (.iushr, 1) := by decide +kernel
theorem dJ6_bitCount_0f7a4_39 : decode cJ6_bitCount_0f7a4 39 = .ok (.iadd, 1) := by decide +kernel
theorem dJ6_bitCount_0f7a4_40 : decode cJ6_bitCount_0f7a4 40 = .ok (.istore_n 0, 1) := by decide +kernel
theorem dJ6_bitCount_0f7a4_41 : decode cJ6_bitCount_0f7a4 41 = .ok (.iload_n 0, 1) := by decide +kernel
theorem dJ6_bitCount_0f7a4_42 : decode cJ6_bitCount_0f7a4 42 = .ok (.iload_n 0, 1) := by decide +kernel
theorem dJ6_bitCount_0f7a4_43 : decode cJ6_bitCount_0f7a4 43 = .ok (.bipush 16, 2) := by decide +kernel
theorem dJ6_bitCount_0f7a4_45 : decode cJ6_bitCount_0f7a4 45 = .ok (.iushr, 1) := by decide +kernel
theorem dJ6_bitCount_0f7a4_46 : decode cJ6_bitCount_0f7a4 46 = .ok (.iadd, 1) := by decide +kernel
theorem dJ6_bitCount_0f7a4_47 : decode cJ6_bitCount_0f7a4 47 = .ok (.istore_n 0, 1) := by decide +kernel
theorem dJ6_bitCount_0f7a4_48 : decode cJ6_bitCount_0f7a4 48 = .ok (.iload_n 0, 1) := by decide +kernel
theorem dJ6_bitCount_0f7a4_49 : decode cJ6_bitCount_0f7a4 49 = .ok (.bipush 63, 2) := by decide +kernel
theorem dJ6_bitCount_0f7a4_51 : decode cJ6_bitCount_0f7a4 51 = .ok (.iand, 1) := by decide +kernel
theorem dJ6_bitCount_0f7a4_52 : decode cJ6_bitCount_0f7a4 52 = .ok (.ireturn, 1) := by decide +kernel
theorem dJ9_max_7cf53_0 : decode cJ9_max_7cf53 0 = .ok (.iload_n 0, 1) := by decide +kernel
theorem dJ9_max_7cf53_1 : decode cJ9_max_7cf53 1 = .ok (.iload_n 1, 1) := by decide +kernel
theorem dJ9_max_7cf53_2 : decode cJ9_max_7cf53 2 = .ok (.if_icmp .lt 7, 3) := by decide +kernel
theorem dJ9_max_7cf53_5 : decode cJ9_max_7cf53 5 = .ok (.iload_n 0, 1) := by decide +kernel
theorem dJ9_max_7cf53_6 : decode cJ9_max_7cf53 6 = .ok (.goto 4, 3) := by decide +kernel
theorem dJ9_max_7cf53_9 : decode cJ9_max_7cf53 9 = .ok (.iload_n 1, 1) := by decide +kernel
theorem dJ9_max_7cf53_10 : decode cJ9_max_7cf53 10 = .ok (.ireturn, 1) := by decide +kernel
theorem dJ9_min_7cf53_0 : decode cJ9_min_7cf53 0 = .ok (.iload_n 0, 1) := by decide +kernel
theorem dJ9_min_7cf53_1 : decode cJ9_min_7cf53 1 = .ok (.iload_n 1, 1) := by decide +kernel
theorem dJ9_min_7cf53_2 : decode cJ9_min_7cf53 2 = .ok (.if_icmp .gt 7, 3) := by decide +kernel
theorem dJ9_min_7cf53_5 : decode cJ9_min_7cf53 5 = .ok (.iload_n 0, 1) := by decide +kernel
theorem dJ9_min_7cf53_6 : decode cJ9_min_7cf53 6 = .ok (.goto 4, 3) := by decide +kernel
theorem dJ9_min_7cf53_9 : decode cJ9_min_7cf53 9 = .ok (.iload_n 1, 1) := by decide +kernel
theorem dJ9_min_7cf53_10 : decode cJ9_min_7cf53 10 = .ok (.ireturn, 1) := by decide +kernel
theorem dJ7_fill_53178_0 : decode cJ7_fill_53178 0 = .ok (.iconst 0, 1) := by decide +kernel
theorem dJ7_fill_53178_1 : decode cJ7_fill_53178 1 = .ok (.istore_n 2, 1) := by decide +kernel
theorem dJ7_fill_53178_2 : decode cJ7_fill_53178 2 = .ok (.aload_n 0, 1) := by decide +kernel
theorem dJ7_fill_53178_3 : decode cJ7_fill_53178 3 = .ok (.arraylength, 1) := by decide +kernel
theorem dJ7_fill_53178_4 : decode cJ7_fill_53178 4 = .ok (.istore_n 3, 1) := by decide +kernel
theorem dJ7_fill_53178_5 : decode cJ7_fill_53178 5 = .ok (.iload_n 2, 1) := by decide +kernel
theorem dJ7_fill_53178_6 : decode cJ7_fill_53178 6 = .ok (.iload_n 3, 1) := by decide +kernel
theorem dJ7_fill_53178_7 : decode cJ7_fill_53178 7 = .ok (.if_icmp .ge 13, 3) := by decide +kernel
theorem dJ7_fill_53178_10 : decode cJ7_fill_53178 10 = .ok (.aload_n 0, 1) := by decide +kernel
theorem dJ7_fill_53178_11 : decode cJ7_fill_53178 11 = .ok (.iload_n 2, 1) := by decide +kernel
theorem dJ7_fill_53178_12 : decode cJ7_fill_53178 12 = .ok (.iload_n 1, 1) := by decide +kernel
theorem dJ7_fill_53178_13 : decode cJ7_fill_53178 13 = .ok (.iastore, 1) := by decide +kernel
theorem dJ7_fill_53178_14 : decode cJ7_fill_53178 14 = .ok (.iinc 2 1, 3) := by decide +kernel
theorem dJ7_fill_53178_17 : decode cJ7_fill_53178 17 = .ok (.goto (-12), 3) := by decide +kernel
theorem dJ7_fill_53178_20 : decode cJ7_fill_53178 20 = .ok (.return_, 1) := by decide +kernel
theorem dL_law_0 : decode cL_law 0 = .ok (.new 7, 3) := by decide +kernel
theorem dL_law_3 : decode cL_law 3 = .ok (.dup, 1) := by decide +kernel
theorem dL_law_4 : decode cL_law 4 = .ok (.invokespecial 9, 3) := by decide +kernel
theorem dL_law_7 : decode cL_law 7 = .ok (.astore_n 1, 1) := by decide +kernel
theorem dL_law_8 : decode cL_law 8 = .ok (.new 10, 3) := by decide +kernel
theorem dL_law_11 : decode cL_law 11 = .ok (.dup, 1) := by decide +kernel
theorem dL_law_12 : decode cL_law 12 = .ok (.invokespecial 12, 3) := by decide +kernel
theorem dL_law_15 : decode cL_law 15 = .ok (.astore_n 2, 1) := by decide +kernel
theorem dL_law_16 : decode cL_law 16 = .ok (.iconst 0, 1) := by decide +kernel
theorem dL_law_17 : decode cL_law 17 = .ok (.istore_n 3, 1) := by decide +kernel
theorem dL_law_18 : decode cL_law 18 = .ok (.iload_n 3, 1) := by decide +kernel
theorem dL_law_19 : decode cL_law 19 = .ok (.aload_n 0, 1) := by decide +kernel
theorem dL_law_20 : decode cL_law 20 = .ok (.arraylength, 1) := by decide +kernel
theorem dL_law_21 : decode cL_law 21 = .ok (.bipush 6, 2) := by decide +kernel
theorem dL_law_23 : decode cL_law 23 = .ok (.isub, 1) := by decide +kernel
theorem dL_law_24 : decode cL_law 24 = .ok (.if_icmp .gt 1064, 3) := by decide +kernel
theorem dL_law_27 : decode cL_law 27 = .ok (.aload_n 0, 1) := by decide +kernel
theorem dL_law_28 : decode cL_law 28 = .ok (.iload_n 3, 1) := by decide +kernel
theorem dL_law_29 : decode cL_law 29 = .ok (.iaload, 1) := by decide +kernel
theorem dL_law_30 : decode cL_law 30 = .ok (.bipush 31, 2) := by decide +kernel
theorem dL_law_32 : decode cL_law 32 = .ok (.iand, 1) := by decide +kernel
theorem dL_law_33 : decode cL_law 33 = .ok (.tableswitch 1049 0 28 #[131, 154, 167, 180, 223, 256, 299, 322, 355, 388, 421, 434, 457, 500, 543, 586, 649, 712, 735, 798, 851, 864, 877, 910, 923, 966, 989, 1012, 1035], 131) := by decide +kernel
theorem dL_law_164 : decode cL_law 164 = .ok (.aload_n 1, 1) := by decide +kernel
theorem dL_law_165 : decode cL_law 165 = .ok (.aload_n 0, 1) := by decide +kernel
theorem dL_law_166 : decode cL_law 166 = .ok (.iload_n 3, 1) := by decide +kernel
theorem dL_law_167 : decode cL_law 167 = .ok (.iconst 1, 1) := by decide +kernel
theorem dL_law_168 : decode cL_law 168 = .ok (.iadd, 1) := by decide +kernel
theorem dL_law_169 : decode cL_law 169 = .ok (.iaload, 1) := by decide +kernel
theorem dL_law_170 : decode cL_law 170 = .ok (.invokevirtual 13, 3) := by decide +kernel
theorem dL_law_173 : decode cL_law 173 = .ok (.aload_n 2, 1) := by decide +kernel
theorem dL_law_174 : decode cL_law 174 = .ok (.aload_n 0, 1) := by decide +kernel
theorem dL_law_175 : decode cL_law 175 = .ok (.iload_n 3, 1) := by decide +kernel
theorem dL_law_176 : decode cL_law 176 = .ok (.iconst 1, 1) := by decide +kernel
theorem dL_law_177 : decode cL_law 177 = .ok (.iadd, 1) := by decide +kernel
theorem dL_law_178 : decode cL_law 178 = .ok (.iaload, 1) := by decide +kernel
theorem dL_law_179 : decode cL_law 179 = .ok (.invokevirtual 17, 3) := by decide +kernel
theorem dL_law_182 : decode cL_law 182 = .ok (.if_icmp .eq 900, 3) := by decide +kernel
theorem dL_law_185 : decode cL_law 185 = .ok (.iconst 0, 1) := by decide +kernel
theorem dL_law_186 : decode cL_law 186 = .ok (.ireturn, 1) := by decide +kernel
theorem dL_law_187 : decode cL_law 187 = .ok (.aload_n 1, 1) := by decide +kernel
theorem dL_law_188 : decode cL_law 188 = .ok (.invokevirtual 18, 3) := by decide +kernel
theorem dL_law_191 : decode cL_law 191 = .ok (.aload_n 2, 1) := by decide +kernel
theorem dL_law_192 : decode cL_law 192 = .ok (.invokevirtual 22, 3) := by decide +kernel
theorem dL_law_195 : decode cL_law 195 = .ok (.if_icmp .eq 887, 3) := by decide +kernel
theorem dL_law_198 : decode cL_law 198 = .ok (.iconst 0, 1) := by decide +kernel
theorem dL_law_199 : decode cL_law 199 = .ok (.ireturn, 1) := by decide +kernel
theorem dL_law_200 : decode cL_law 200 = .ok (.aload_n 1, 1) := by decide +kernel
theorem dL_law_201 : decode cL_law 201 = .ok (.invokevirtual 23, 3) := by decide +kernel
theorem dL_law_204 : decode cL_law 204 = .ok (.aload_n 2, 1) := by decide +kernel
theorem dL_law_205 : decode cL_law 205 = .ok (.invokevirtual 26, 3) := by decide +kernel
theorem dL_law_208 : decode cL_law 208 = .ok (.if_icmp .eq 874, 3) := by decide +kernel
theorem dL_law_211 : decode cL_law 211 = .ok (.iconst 0, 1) := by decide +kernel
theorem dL_law_212 : decode cL_law 212 = .ok (.ireturn, 1) := by decide +kernel
theorem dL_law_213 : decode cL_law 213 = .ok (.aload_n 1, 1) := by decide +kernel
theorem dL_law_214 : decode cL_law 214 = .ok (.aload_n 0, 1) := by decide +kernel
theorem dL_law_215 : decode cL_law 215 = .ok (.iload_n 3, 1) := by decide +kernel
theorem dL_law_216 : decode cL_law 216 = .ok (.iconst 1, 1) := by decide +kernel
theorem dL_law_217 : decode cL_law 217 = .ok (.iadd, 1) := by decide +kernel
theorem dL_law_218 : decode cL_law 218 = .ok (.iaload, 1) := by decide +kernel
theorem dL_law_219 : decode cL_law 219 = .ok (.aload_n 0, 1) := by decide +kernel
theorem dL_law_220 : decode cL_law 220 = .ok (.iload_n 3, 1) := by decide +kernel
theorem dL_law_221 : decode cL_law 221 = .ok (.iconst 2, 1) := by decide +kernel
theorem dL_law_222 : decode cL_law 222 = .ok (.iadd, 1) := by decide +kernel
theorem dL_law_223 : decode cL_law 223 = .ok (.iaload, 1) := by decide +kernel
theorem dL_law_224 : decode cL_law 224 = .ok (.aload_n 0, 1) := by decide +kernel
theorem dL_law_225 : decode cL_law 225 = .ok (.iload_n 3, 1) := by decide +kernel
theorem dL_law_226 : decode cL_law 226 = .ok (.iconst 3, 1) := by decide +kernel
theorem dL_law_227 : decode cL_law 227 = .ok (.iadd, 1) := by decide +kernel
theorem dL_law_228 : decode cL_law 228 = .ok (.iaload, 1) := by decide +kernel
theorem dL_law_229 : decode cL_law 229 = .ok (.invokevirtual 27, 3) := by decide +kernel
theorem dL_law_232 : decode cL_law 232 = .ok (.aload_n 2, 1) := by decide +kernel
theorem dL_law_233 : decode cL_law 233 = .ok (.aload_n 0, 1) := by decide +kernel
theorem dL_law_234 : decode cL_law 234 = .ok (.iload_n 3, 1) := by decide +kernel
theorem dL_law_235 : decode cL_law 235 = .ok (.iconst 1, 1) := by decide +kernel
theorem dL_law_236 : decode cL_law 236 = .ok (.iadd, 1) := by decide +kernel
theorem dL_law_237 : decode cL_law 237 = .ok (.iaload, 1) := by decide +kernel
theorem dL_law_238 : decode cL_law 238 = .ok (.aload_n 0, 1) := by decide +kernel
theorem dL_law_239 : decode cL_law 239 = .ok (.iload_n 3, 1) := by decide +kernel
theorem dL_law_240 : decode cL_law 240 = .ok (.iconst 2, 1) := by decide +kernel
theorem dL_law_241 : decode cL_law 241 = .ok (.iadd, 1) := by decide +kernel
theorem dL_law_242 : decode cL_law 242 = .ok (.iaload, 1) := by decide +kernel
theorem dL_law_243 : decode cL_law 243 = .ok (.aload_n 0, 1) := by decide +kernel
theorem dL_law_244 : decode cL_law 244 = .ok (.iload_n 3, 1) := by decide +kernel
theorem dL_law_245 : decode cL_law 245 = .ok (.iconst 3, 1) := by decide +kernel
theorem dL_law_246 : decode cL_law 246 = .ok (.iadd, 1) := by decide +kernel
theorem dL_law_247 : decode cL_law 247 = .ok (.iaload, 1) := by decide +kernel
theorem dL_law_248 : decode cL_law 248 = .ok (.invokevirtual 31, 3) := by decide +kernel
theorem dL_law_251 : decode cL_law 251 = .ok (.if_icmp .eq 831, 3) := by decide +kernel
theorem dL_law_254 : decode cL_law 254 = .ok (.iconst 0, 1) := by decide +kernel
theorem dL_law_255 : decode cL_law 255 = .ok (.ireturn, 1) := by decide +kernel
theorem dL_law_256 : decode cL_law 256 = .ok (.aload_n 1, 1) := by decide +kernel
theorem dL_law_257 : decode cL_law 257 = .ok (.aload_n 0, 1) := by decide +kernel
theorem dL_law_258 : decode cL_law 258 = .ok (.iload_n 3, 1) := by decide +kernel
theorem dL_law_259 : decode cL_law 259 = .ok (.iconst 1, 1) := by decide +kernel
theorem dL_law_260 : decode cL_law 260 = .ok (.iadd, 1) := by decide +kernel
theorem dL_law_261 : decode cL_law 261 = .ok (.iaload, 1) := by decide +kernel
theorem dL_law_262 : decode cL_law 262 = .ok (.aload_n 0, 1) := by decide +kernel
theorem dL_law_263 : decode cL_law 263 = .ok (.iload_n 3, 1) := by decide +kernel
theorem dL_law_264 : decode cL_law 264 = .ok (.iconst 2, 1) := by decide +kernel
theorem dL_law_265 : decode cL_law 265 = .ok (.iadd, 1) := by decide +kernel
theorem dL_law_266 : decode cL_law 266 = .ok (.iaload, 1) := by decide +kernel
theorem dL_law_267 : decode cL_law 267 = .ok (.invokevirtual 32, 3) := by decide +kernel
theorem dL_law_270 : decode cL_law 270 = .ok (.aload_n 2, 1) := by decide +kernel
theorem dL_law_271 : decode cL_law 271 = .ok (.aload_n 0, 1) := by decide +kernel
theorem dL_law_272 : decode cL_law 272 = .ok (.iload_n 3, 1) := by decide +kernel
theorem dL_law_273 : decode cL_law 273 = .ok (.iconst 1, 1) := by decide +kernel
theorem dL_law_274 : decode cL_law 274 = .ok (.iadd, 1) := by decide +kernel
theorem dL_law_275 : decode cL_law 275 = .ok (.iaload, 1) := by decide +kernel
theorem dL_law_276 : decode cL_law 276 = .ok (.aload_n 0, 1) := by decide +kernel
theorem dL_law_277 : decode cL_law 277 = .ok (.iload_n 3, 1) := by decide +kernel
theorem dL_law_278 : decode cL_law 278 = .ok (.iconst 2, 1) := by decide +kernel
theorem dL_law_279 : decode cL_law 279 = .ok (.iadd, 1) := by decide +kernel
theorem dL_law_280 : decode cL_law 280 = .ok (.iaload, 1) := by decide +kernel
theorem dL_law_281 : decode cL_law 281 = .ok (.invokevirtual 36, 3) := by decide +kernel
theorem dL_law_284 : decode cL_law 284 = .ok (.if_icmp .eq 798, 3) := by decide +kernel
theorem dL_law_287 : decode cL_law 287 = .ok (.iconst 0, 1) := by decide +kernel
theorem dL_law_288 : decode cL_law 288 = .ok (.ireturn, 1) := by decide +kernel
theorem dL_law_289 : decode cL_law 289 = .ok (.aload_n 1, 1) := by decide +kernel
theorem dL_law_290 : decode cL_law 290 = .ok (.aload_n 0, 1) := by decide +kernel
theorem dL_law_291 : decode cL_law 291 = .ok (.iload_n 3, 1) := by decide +kernel
theorem dL_law_292 : decode cL_law 292 = .ok (.iconst 1, 1) := by decide +kernel
theorem dL_law_293 : decode cL_law 293 = .ok (.iadd, 1) := by decide +kernel
theorem dL_law_294 : decode cL_law 294 = .ok (.iaload, 1) := by decide +kernel
theorem dL_law_295 : decode cL_law 295 = .ok (.aload_n 0, 1) := by decide +kernel
theorem dL_law_296 : decode cL_law 296 = .ok (.iload_n 3, 1) := by decide +kernel
theorem dL_law_297 : decode cL_law 297 = .ok (.iconst 2, 1) := by decide +kernel
theorem dL_law_298 : decode cL_law 298 = .ok (.iadd, 1) := by decide +kernel
theorem dL_law_299 : decode cL_law 299 = .ok (.iaload, 1) := by decide +kernel
theorem dL_law_300 : decode cL_law 300 = .ok (.aload_n 0, 1) := by decide +kernel
theorem dL_law_301 : decode cL_law 301 = .ok (.iload_n 3, 1) := by decide +kernel
theorem dL_law_302 : decode cL_law 302 = .ok (.iconst 3, 1) := by decide +kernel
theorem dL_law_303 : decode cL_law 303 = .ok (.iadd, 1) := by decide +kernel
theorem dL_law_304 : decode cL_law 304 = .ok (.iaload, 1) := by decide +kernel
theorem dL_law_305 : decode cL_law 305 = .ok (.invokevirtual 37, 3) := by decide +kernel
theorem dL_law_308 : decode cL_law 308 = .ok (.aload_n 2, 1) := by decide +kernel
theorem dL_law_309 : decode cL_law 309 = .ok (.aload_n 0, 1) := by decide +kernel
theorem dL_law_310 : decode cL_law 310 = .ok (.iload_n 3, 1) := by decide +kernel
theorem dL_law_311 : decode cL_law 311 = .ok (.iconst 1, 1) := by decide +kernel
theorem dL_law_312 : decode cL_law 312 = .ok (.iadd, 1) := by decide +kernel
theorem dL_law_313 : decode cL_law 313 = .ok (.iaload, 1) := by decide +kernel
theorem dL_law_314 : decode cL_law 314 = .ok (.aload_n 0, 1) := by decide +kernel
theorem dL_law_315 : decode cL_law 315 = .ok (.iload_n 3, 1) := by decide +kernel
theorem dL_law_316 : decode cL_law 316 = .ok (.iconst 2, 1) := by decide +kernel
theorem dL_law_317 : decode cL_law 317 = .ok (.iadd, 1) := by decide +kernel
theorem dL_law_318 : decode cL_law 318 = .ok (.iaload, 1) := by decide +kernel
theorem dL_law_319 : decode cL_law 319 = .ok (.aload_n 0, 1) := by decide +kernel
theorem dL_law_320 : decode cL_law 320 = .ok (.iload_n 3, 1) := by decide +kernel
theorem dL_law_321 : decode cL_law 321 = .ok (.iconst 3, 1) := by decide +kernel
theorem dL_law_322 : decode cL_law 322 = .ok (.iadd, 1) := by decide +kernel
theorem dL_law_323 : decode cL_law 323 = .ok (.iaload, 1) := by decide +kernel
theorem dL_law_324 : decode cL_law 324 = .ok (.invokevirtual 40, 3) := by decide +kernel
theorem dL_law_327 : decode cL_law 327 = .ok (.if_icmp .eq 755, 3) := by decide +kernel
theorem dL_law_330 : decode cL_law 330 = .ok (.iconst 0, 1) := by decide +kernel
theorem dL_law_331 : decode cL_law 331 = .ok (.ireturn, 1) := by decide +kernel
theorem dL_law_332 : decode cL_law 332 = .ok (.aload_n 1, 1) := by decide +kernel
theorem dL_law_333 : decode cL_law 333 = .ok (.aload_n 0, 1) := by decide +kernel
theorem dL_law_334 : decode cL_law 334 = .ok (.iload_n 3, 1) := by decide +kernel
theorem dL_law_335 : decode cL_law 335 = .ok (.iconst 1, 1) := by decide +kernel
theorem dL_law_336 : decode cL_law 336 = .ok (.iadd, 1) := by decide +kernel
theorem dL_law_337 : decode cL_law 337 = .ok (.iaload, 1) := by decide +kernel
theorem dL_law_338 : decode cL_law 338 = .ok (.invokevirtual 41, 3) := by decide +kernel
theorem dL_law_341 : decode cL_law 341 = .ok (.aload_n 2, 1) := by decide +kernel
theorem dL_law_342 : decode cL_law 342 = .ok (.aload_n 0, 1) := by decide +kernel
theorem dL_law_343 : decode cL_law 343 = .ok (.iload_n 3, 1) := by decide +kernel
theorem dL_law_344 : decode cL_law 344 = .ok (.iconst 1, 1) := by decide +kernel
theorem dL_law_345 : decode cL_law 345 = .ok (.iadd, 1) := by decide +kernel
theorem dL_law_346 : decode cL_law 346 = .ok (.iaload, 1) := by decide +kernel
theorem dL_law_347 : decode cL_law 347 = .ok (.invokevirtual 44, 3) := by decide +kernel
theorem dL_law_350 : decode cL_law 350 = .ok (.if_icmp .eq 732, 3) := by decide +kernel
theorem dL_law_353 : decode cL_law 353 = .ok (.iconst 0, 1) := by decide +kernel
theorem dL_law_354 : decode cL_law 354 = .ok (.ireturn, 1) := by decide +kernel
theorem dL_law_355 : decode cL_law 355 = .ok (.aload_n 1, 1) := by decide +kernel
theorem dL_law_356 : decode cL_law 356 = .ok (.aload_n 0, 1) := by decide +kernel
theorem dL_law_357 : decode cL_law 357 = .ok (.iload_n 3, 1) := by decide +kernel
theorem dL_law_358 : decode cL_law 358 = .ok (.iconst 1, 1) := by decide +kernel
theorem dL_law_359 : decode cL_law 359 = .ok (.iadd, 1) := by decide +kernel
theorem dL_law_360 : decode cL_law 360 = .ok (.iaload, 1) := by decide +kernel
theorem dL_law_361 : decode cL_law 361 = .ok (.aload_n 0, 1) := by decide +kernel
theorem dL_law_362 : decode cL_law 362 = .ok (.iload_n 3, 1) := by decide +kernel
theorem dL_law_363 : decode cL_law 363 = .ok (.iconst 2, 1) := by decide +kernel
theorem dL_law_364 : decode cL_law 364 = .ok (.iadd, 1) := by decide +kernel
theorem dL_law_365 : decode cL_law 365 = .ok (.iaload, 1) := by decide +kernel
theorem dL_law_366 : decode cL_law 366 = .ok (.invokevirtual 45, 3) := by decide +kernel
theorem dL_law_369 : decode cL_law 369 = .ok (.aload_n 2, 1) := by decide +kernel
theorem dL_law_370 : decode cL_law 370 = .ok (.aload_n 0, 1) := by decide +kernel
theorem dL_law_371 : decode cL_law 371 = .ok (.iload_n 3, 1) := by decide +kernel
theorem dL_law_372 : decode cL_law 372 = .ok (.iconst 1, 1) := by decide +kernel
theorem dL_law_373 : decode cL_law 373 = .ok (.iadd, 1) := by decide +kernel
theorem dL_law_374 : decode cL_law 374 = .ok (.iaload, 1) := by decide +kernel
theorem dL_law_375 : decode cL_law 375 = .ok (.aload_n 0, 1) := by decide +kernel
theorem dL_law_376 : decode cL_law 376 = .ok (.iload_n 3, 1) := by decide +kernel
theorem dL_law_377 : decode cL_law 377 = .ok (.iconst 2, 1) := by decide +kernel
theorem dL_law_378 : decode cL_law 378 = .ok (.iadd, 1) := by decide +kernel
theorem dL_law_379 : decode cL_law 379 = .ok (.iaload, 1) := by decide +kernel
theorem dL_law_380 : decode cL_law 380 = .ok (.invokevirtual 48, 3) := by decide +kernel
theorem dL_law_383 : decode cL_law 383 = .ok (.if_icmp .eq 699, 3) := by decide +kernel
theorem dL_law_386 : decode cL_law 386 = .ok (.iconst 0, 1) := by decide +kernel
theorem dL_law_387 : decode cL_law 387 = .ok (.ireturn, 1) := by decide +kernel
theorem dL_law_388 : decode cL_law 388 = .ok (.aload_n 1, 1) := by decide +kernel
theorem dL_law_389 : decode cL_law 389 = .ok (.aload_n 0, 1) := by decide +kernel
theorem dL_law_390 : decode cL_law 390 = .ok (.iload_n 3, 1) := by decide +kernel
theorem dL_law_391 : decode cL_law 391 = .ok (.iconst 1, 1) := by decide +kernel
theorem dL_law_392 : decode cL_law 392 = .ok (.iadd, 1) := by decide +kernel
theorem dL_law_393 : decode cL_law 393 = .ok (.iaload, 1) := by decide +kernel
theorem dL_law_394 : decode cL_law 394 = .ok (.aload_n 0, 1) := by decide +kernel
theorem dL_law_395 : decode cL_law 395 = .ok (.iload_n 3, 1) := by decide +kernel
theorem dL_law_396 : decode cL_law 396 = .ok (.iconst 2, 1) := by decide +kernel
theorem dL_law_397 : decode cL_law 397 = .ok (.iadd, 1) := by decide +kernel
theorem dL_law_398 : decode cL_law 398 = .ok (.iaload, 1) := by decide +kernel
theorem dL_law_399 : decode cL_law 399 = .ok (.invokevirtual 49, 3) := by decide +kernel
theorem dL_law_402 : decode cL_law 402 = .ok (.aload_n 2, 1) := by decide +kernel
theorem dL_law_403 : decode cL_law 403 = .ok (.aload_n 0, 1) := by decide +kernel
theorem dL_law_404 : decode cL_law 404 = .ok (.iload_n 3, 1) := by decide +kernel
theorem dL_law_405 : decode cL_law 405 = .ok (.iconst 1, 1) := by decide +kernel
theorem dL_law_406 : decode cL_law 406 = .ok (.iadd, 1) := by decide +kernel
theorem dL_law_407 : decode cL_law 407 = .ok (.iaload, 1) := by decide +kernel
theorem dL_law_408 : decode cL_law 408 = .ok (.aload_n 0, 1) := by decide +kernel
theorem dL_law_409 : decode cL_law 409 = .ok (.iload_n 3, 1) := by decide +kernel
theorem dL_law_410 : decode cL_law 410 = .ok (.iconst 2, 1) := by decide +kernel
theorem dL_law_411 : decode cL_law 411 = .ok (.iadd, 1) := by decide +kernel
theorem dL_law_412 : decode cL_law 412 = .ok (.iaload, 1) := by decide +kernel
theorem dL_law_413 : decode cL_law 413 = .ok (.invokevirtual 52, 3) := by decide +kernel
theorem dL_law_416 : decode cL_law 416 = .ok (.if_icmp .eq 666, 3) := by decide +kernel
theorem dL_law_419 : decode cL_law 419 = .ok (.iconst 0, 1) := by decide +kernel
theorem dL_law_420 : decode cL_law 420 = .ok (.ireturn, 1) := by decide +kernel
theorem dL_law_421 : decode cL_law 421 = .ok (.aload_n 1, 1) := by decide +kernel
theorem dL_law_422 : decode cL_law 422 = .ok (.aload_n 0, 1) := by decide +kernel
theorem dL_law_423 : decode cL_law 423 = .ok (.iload_n 3, 1) := by decide +kernel
theorem dL_law_424 : decode cL_law 424 = .ok (.iconst 1, 1) := by decide +kernel
theorem dL_law_425 : decode cL_law 425 = .ok (.iadd, 1) := by decide +kernel
theorem dL_law_426 : decode cL_law 426 = .ok (.iaload, 1) := by decide +kernel
theorem dL_law_427 : decode cL_law 427 = .ok (.aload_n 0, 1) := by decide +kernel
theorem dL_law_428 : decode cL_law 428 = .ok (.iload_n 3, 1) := by decide +kernel
theorem dL_law_429 : decode cL_law 429 = .ok (.iconst 2, 1) := by decide +kernel
theorem dL_law_430 : decode cL_law 430 = .ok (.iadd, 1) := by decide +kernel
theorem dL_law_431 : decode cL_law 431 = .ok (.iaload, 1) := by decide +kernel
theorem dL_law_432 : decode cL_law 432 = .ok (.invokevirtual 53, 3) := by decide +kernel
theorem dL_law_435 : decode cL_law 435 = .ok (.aload_n 2, 1) := by decide +kernel
theorem dL_law_436 : decode cL_law 436 = .ok (.aload_n 0, 1) := by decide +kernel
theorem dL_law_437 : decode cL_law 437 = .ok (.iload_n 3, 1) := by decide +kernel
theorem dL_law_438 : decode cL_law 438 = .ok (.iconst 1, 1) := by decide +kernel
theorem dL_law_439 : decode cL_law 439 = .ok (.iadd, 1) := by decide +kernel
theorem dL_law_440 : decode cL_law 440 = .ok (.iaload, 1) := by decide +kernel
theorem dL_law_441 : decode cL_law 441 = .ok (.aload_n 0, 1) := by decide +kernel
theorem dL_law_442 : decode cL_law 442 = .ok (.iload_n 3, 1) := by decide +kernel
theorem dL_law_443 : decode cL_law 443 = .ok (.iconst 2, 1) := by decide +kernel
theorem dL_law_444 : decode cL_law 444 = .ok (.iadd, 1) := by decide +kernel
theorem dL_law_445 : decode cL_law 445 = .ok (.iaload, 1) := by decide +kernel
theorem dL_law_446 : decode cL_law 446 = .ok (.invokevirtual 56, 3) := by decide +kernel
theorem dL_law_449 : decode cL_law 449 = .ok (.if_icmp .eq 633, 3) := by decide +kernel
theorem dL_law_452 : decode cL_law 452 = .ok (.iconst 0, 1) := by decide +kernel
theorem dL_law_453 : decode cL_law 453 = .ok (.ireturn, 1) := by decide +kernel
theorem dL_law_454 : decode cL_law 454 = .ok (.aload_n 1, 1) := by decide +kernel
theorem dL_law_455 : decode cL_law 455 = .ok (.invokevirtual 57, 3) := by decide +kernel
theorem dL_law_458 : decode cL_law 458 = .ok (.aload_n 2, 1) := by decide +kernel
theorem dL_law_459 : decode cL_law 459 = .ok (.invokevirtual 60, 3) := by decide +kernel
theorem dL_law_462 : decode cL_law 462 = .ok (.if_icmp .eq 620, 3) := by decide +kernel
theorem dL_law_465 : decode cL_law 465 = .ok (.iconst 0, 1) := by decide +kernel
theorem dL_law_466 : decode cL_law 466 = .ok (.ireturn, 1) := by decide +kernel
theorem dL_law_467 : decode cL_law 467 = .ok (.aload_n 1, 1) := by decide +kernel
theorem dL_law_468 : decode cL_law 468 = .ok (.aload_n 0, 1) := by decide +kernel
theorem dL_law_469 : decode cL_law 469 = .ok (.iload_n 3, 1) := by decide +kernel
theorem dL_law_470 : decode cL_law 470 = .ok (.iconst 1, 1) := by decide +kernel
theorem dL_law_471 : decode cL_law 471 = .ok (.iadd, 1) := by decide +kernel
theorem dL_law_472 : decode cL_law 472 = .ok (.iaload, 1) := by decide +kernel
theorem dL_law_473 : decode cL_law 473 = .ok (.invokevirtual 61, 3) := by decide +kernel
theorem dL_law_476 : decode cL_law 476 = .ok (.aload_n 2, 1) := by decide +kernel
theorem dL_law_477 : decode cL_law 477 = .ok (.aload_n 0, 1) := by decide +kernel
theorem dL_law_478 : decode cL_law 478 = .ok (.iload_n 3, 1) := by decide +kernel
theorem dL_law_479 : decode cL_law 479 = .ok (.iconst 1, 1) := by decide +kernel
theorem dL_law_480 : decode cL_law 480 = .ok (.iadd, 1) := by decide +kernel
theorem dL_law_481 : decode cL_law 481 = .ok (.iaload, 1) := by decide +kernel
theorem dL_law_482 : decode cL_law 482 = .ok (.invokevirtual 64, 3) := by decide +kernel
theorem dL_law_485 : decode cL_law 485 = .ok (.if_icmp .eq 597, 3) := by decide +kernel
theorem dL_law_488 : decode cL_law 488 = .ok (.iconst 0, 1) := by decide +kernel
theorem dL_law_489 : decode cL_law 489 = .ok (.ireturn, 1) := by decide +kernel
theorem dL_law_490 : decode cL_law 490 = .ok (.aload_n 1, 1) := by decide +kernel
theorem dL_law_491 : decode cL_law 491 = .ok (.aload_n 0, 1) := by decide +kernel
theorem dL_law_492 : decode cL_law 492 = .ok (.iload_n 3, 1) := by decide +kernel
theorem dL_law_493 : decode cL_law 493 = .ok (.iconst 1, 1) := by decide +kernel
theorem dL_law_494 : decode cL_law 494 = .ok (.iadd, 1) := by decide +kernel
theorem dL_law_495 : decode cL_law 495 = .ok (.iaload, 1) := by decide +kernel
theorem dL_law_496 : decode cL_law 496 = .ok (.aload_n 0, 1) := by decide +kernel
theorem dL_law_497 : decode cL_law 497 = .ok (.iload_n 3, 1) := by decide +kernel
theorem dL_law_498 : decode cL_law 498 = .ok (.iconst 2, 1) := by decide +kernel
theorem dL_law_499 : decode cL_law 499 = .ok (.iadd, 1) := by decide +kernel
theorem dL_law_500 : decode cL_law 500 = .ok (.iaload, 1) := by decide +kernel
theorem dL_law_501 : decode cL_law 501 = .ok (.aload_n 0, 1) := by decide +kernel
theorem dL_law_502 : decode cL_law 502 = .ok (.iload_n 3, 1) := by decide +kernel
theorem dL_law_503 : decode cL_law 503 = .ok (.iconst 3, 1) := by decide +kernel
theorem dL_law_504 : decode cL_law 504 = .ok (.iadd, 1) := by decide +kernel
theorem dL_law_505 : decode cL_law 505 = .ok (.iaload, 1) := by decide +kernel
theorem dL_law_506 : decode cL_law 506 = .ok (.invokevirtual 65, 3) := by decide +kernel
theorem dL_law_509 : decode cL_law 509 = .ok (.aload_n 2, 1) := by decide +kernel
theorem dL_law_510 : decode cL_law 510 = .ok (.aload_n 0, 1) := by decide +kernel
theorem dL_law_511 : decode cL_law 511 = .ok (.iload_n 3, 1) := by decide +kernel
theorem dL_law_512 : decode cL_law 512 = .ok (.iconst 1, 1) := by decide +kernel
theorem dL_law_513 : decode cL_law 513 = .ok (.iadd, 1) := by decide +kernel
theorem dL_law_514 : decode cL_law 514 = .ok (.iaload, 1) := by decide +kernel
theorem dL_law_515 : decode cL_law 515 = .ok (.aload_n 0, 1) := by decide +kernel
theorem dL_law_516 : decode cL_law 516 = .ok (.iload_n 3, 1) := by decide +kernel
theorem dL_law_517 : decode cL_law 517 = .ok (.iconst 2, 1) := by decide +kernel
theorem dL_law_518 : decode cL_law 518 = .ok (.iadd, 1) := by decide +kernel
theorem dL_law_519 : decode cL_law 519 = .ok (.iaload, 1) := by decide +kernel
theorem dL_law_520 : decode cL_law 520 = .ok (.aload_n 0, 1) := by decide +kernel
theorem dL_law_521 : decode cL_law 521 = .ok (.iload_n 3, 1) := by decide +kernel
theorem dL_law_522 : decode cL_law 522 = .ok (.iconst 3, 1) := by decide +kernel
theorem dL_law_523 : decode cL_law 523 = .ok (.iadd, 1) := by decide +kernel
theorem dL_law_524 : decode cL_law 524 = .ok (.iaload, 1) := by decide +kernel
theorem dL_law_525 : decode cL_law 525 = .ok (.invokevirtual 68, 3) := by decide +kernel
theorem dL_law_528 : decode cL_law 528 = .ok (.if_icmp .eq 554, 3) := by decide +kernel
theorem dL_law_531 : decode cL_law 531 = .ok (.iconst 0, 1) := by decide +kernel
theorem dL_law_532 : decode cL_law 532 = .ok (.ireturn, 1) := by decide +kernel
theorem dL_law_533 : decode cL_law 533 = .ok (.aload_n 1, 1) := by decide +kernel
theorem dL_law_534 : decode cL_law 534 = .ok (.aload_n 0, 1) := by decide +kernel
theorem dL_law_535 : decode cL_law 535 = .ok (.iload_n 3, 1) := by decide +kernel
theorem dL_law_536 : decode cL_law 536 = .ok (.iconst 1, 1) := by decide +kernel
theorem dL_law_537 : decode cL_law 537 = .ok (.iadd, 1) := by decide +kernel
theorem dL_law_538 : decode cL_law 538 = .ok (.iaload, 1) := by decide +kernel
theorem dL_law_539 : decode cL_law 539 = .ok (.aload_n 0, 1) := by decide +kernel
theorem dL_law_540 : decode cL_law 540 = .ok (.iload_n 3, 1) := by decide +kernel
theorem dL_law_541 : decode cL_law 541 = .ok (.iconst 2, 1) := by decide +kernel
theorem dL_law_542 : decode cL_law 542 = .ok (.iadd, 1) := by decide +kernel
theorem dL_law_543 : decode cL_law 543 = .ok (.iaload, 1) := by decide +kernel
theorem dL_law_544 : decode cL_law 544 = .ok (.aload_n 0, 1) := by decide +kernel
theorem dL_law_545 : decode cL_law 545 = .ok (.iload_n 3, 1) := by decide +kernel
theorem dL_law_546 : decode cL_law 546 = .ok (.iconst 3, 1) := by decide +kernel
theorem dL_law_547 : decode cL_law 547 = .ok (.iadd, 1) := by decide +kernel
theorem dL_law_548 : decode cL_law 548 = .ok (.iaload, 1) := by decide +kernel
theorem dL_law_549 : decode cL_law 549 = .ok (.invokevirtual 69, 3) := by decide +kernel
theorem dL_law_552 : decode cL_law 552 = .ok (.aload_n 2, 1) := by decide +kernel
theorem dL_law_553 : decode cL_law 553 = .ok (.aload_n 0, 1) := by decide +kernel
theorem dL_law_554 : decode cL_law 554 = .ok (.iload_n 3, 1) := by decide +kernel
theorem dL_law_555 : decode cL_law 555 = .ok (.iconst 1, 1) := by decide +kernel
theorem dL_law_556 : decode cL_law 556 = .ok (.iadd, 1) := by decide +kernel
theorem dL_law_557 : decode cL_law 557 = .ok (.iaload, 1) := by decide +kernel
theorem dL_law_558 : decode cL_law 558 = .ok (.aload_n 0, 1) := by decide +kernel
theorem dL_law_559 : decode cL_law 559 = .ok (.iload_n 3, 1) := by decide +kernel
theorem dL_law_560 : decode cL_law 560 = .ok (.iconst 2, 1) := by decide +kernel
theorem dL_law_561 : decode cL_law 561 = .ok (.iadd, 1) := by decide +kernel
theorem dL_law_562 : decode cL_law 562 = .ok (.iaload, 1) := by decide +kernel
theorem dL_law_563 : decode cL_law 563 = .ok (.aload_n 0, 1) := by decide +kernel
theorem dL_law_564 : decode cL_law 564 = .ok (.iload_n 3, 1) := by decide +kernel
theorem dL_law_565 : decode cL_law 565 = .ok (.iconst 3, 1) := by decide +kernel
theorem dL_law_566 : decode cL_law 566 = .ok (.iadd, 1) := by decide +kernel
theorem dL_law_567 : decode cL_law 567 = .ok (.iaload, 1) := by decide +kernel
theorem dL_law_568 : decode cL_law 568 = .ok (.invokevirtual 72, 3) := by decide +kernel
theorem dL_law_571 : decode cL_law 571 = .ok (.if_icmp .eq 511, 3) := by decide +kernel
theorem dL_law_574 : decode cL_law 574 = .ok (.iconst 0, 1) := by decide +kernel
theorem dL_law_575 : decode cL_law 575 = .ok (.ireturn, 1) := by decide +kernel
theorem dL_law_576 : decode cL_law 576 = .ok (.aload_n 1, 1) := by decide +kernel
theorem dL_law_577 : decode cL_law 577 = .ok (.aload_n 0, 1) := by decide +kernel
theorem dL_law_578 : decode cL_law 578 = .ok (.iload_n 3, 1) := by decide +kernel
theorem dL_law_579 : decode cL_law 579 = .ok (.iconst 1, 1) := by decide +kernel
theorem dL_law_580 : decode cL_law 580 = .ok (.iadd, 1) := by decide +kernel
theorem dL_law_581 : decode cL_law 581 = .ok (.iaload, 1) := by decide +kernel
theorem dL_law_582 : decode cL_law 582 = .ok (.aload_n 0, 1) := by decide +kernel
theorem dL_law_583 : decode cL_law 583 = .ok (.iload_n 3, 1) := by decide +kernel
theorem dL_law_584 : decode cL_law 584 = .ok (.iconst 2, 1) := by decide +kernel
theorem dL_law_585 : decode cL_law 585 = .ok (.iadd, 1) := by decide +kernel
theorem dL_law_586 : decode cL_law 586 = .ok (.iaload, 1) := by decide +kernel
theorem dL_law_587 : decode cL_law 587 = .ok (.aload_n 0, 1) := by decide +kernel
theorem dL_law_588 : decode cL_law 588 = .ok (.iload_n 3, 1) := by decide +kernel
theorem dL_law_589 : decode cL_law 589 = .ok (.iconst 3, 1) := by decide +kernel
theorem dL_law_590 : decode cL_law 590 = .ok (.iadd, 1) := by decide +kernel
theorem dL_law_591 : decode cL_law 591 = .ok (.iaload, 1) := by decide +kernel
theorem dL_law_592 : decode cL_law 592 = .ok (.invokevirtual 73, 3) := by decide +kernel
theorem dL_law_595 : decode cL_law 595 = .ok (.aload_n 2, 1) := by decide +kernel
theorem dL_law_596 : decode cL_law 596 = .ok (.aload_n 0, 1) := by decide +kernel
theorem dL_law_597 : decode cL_law 597 = .ok (.iload_n 3, 1) := by decide +kernel
theorem dL_law_598 : decode cL_law 598 = .ok (.iconst 1, 1) := by decide +kernel
theorem dL_law_599 : decode cL_law 599 = .ok (.iadd, 1) := by decide +kernel
theorem dL_law_600 : decode cL_law 600 = .ok (.iaload, 1) := by decide +kernel
theorem dL_law_601 : decode cL_law 601 = .ok (.aload_n 0, 1) := by decide +kernel
theorem dL_law_602 : decode cL_law 602 = .ok (.iload_n 3, 1) := by decide +kernel
theorem dL_law_603 : decode cL_law 603 = .ok (.iconst 2, 1) := by decide +kernel
theorem dL_law_604 : decode cL_law 604 = .ok (.iadd, 1) := by decide +kernel
theorem dL_law_605 : decode cL_law 605 = .ok (.iaload, 1) := by decide +kernel
theorem dL_law_606 : decode cL_law 606 = .ok (.aload_n 0, 1) := by decide +kernel
theorem dL_law_607 : decode cL_law 607 = .ok (.iload_n 3, 1) := by decide +kernel
theorem dL_law_608 : decode cL_law 608 = .ok (.iconst 3, 1) := by decide +kernel
theorem dL_law_609 : decode cL_law 609 = .ok (.iadd, 1) := by decide +kernel
theorem dL_law_610 : decode cL_law 610 = .ok (.iaload, 1) := by decide +kernel
theorem dL_law_611 : decode cL_law 611 = .ok (.invokevirtual 76, 3) := by decide +kernel
theorem dL_law_614 : decode cL_law 614 = .ok (.if_icmp .eq 468, 3) := by decide +kernel
theorem dL_law_617 : decode cL_law 617 = .ok (.iconst 0, 1) := by decide +kernel
theorem dL_law_618 : decode cL_law 618 = .ok (.ireturn, 1) := by decide +kernel
theorem dL_law_619 : decode cL_law 619 = .ok (.aload_n 1, 1) := by decide +kernel
theorem dL_law_620 : decode cL_law 620 = .ok (.aload_n 0, 1) := by decide +kernel
theorem dL_law_621 : decode cL_law 621 = .ok (.iload_n 3, 1) := by decide +kernel
theorem dL_law_622 : decode cL_law 622 = .ok (.iconst 1, 1) := by decide +kernel
theorem dL_law_623 : decode cL_law 623 = .ok (.iadd, 1) := by decide +kernel
theorem dL_law_624 : decode cL_law 624 = .ok (.iaload, 1) := by decide +kernel
theorem dL_law_625 : decode cL_law 625 = .ok (.aload_n 0, 1) := by decide +kernel
theorem dL_law_626 : decode cL_law 626 = .ok (.iload_n 3, 1) := by decide +kernel
theorem dL_law_627 : decode cL_law 627 = .ok (.iconst 2, 1) := by decide +kernel
theorem dL_law_628 : decode cL_law 628 = .ok (.iadd, 1) := by decide +kernel
theorem dL_law_629 : decode cL_law 629 = .ok (.iaload, 1) := by decide +kernel
theorem dL_law_630 : decode cL_law 630 = .ok (.aload_n 0, 1) := by decide +kernel
theorem dL_law_631 : decode cL_law 631 = .ok (.iload_n 3, 1) := by decide +kernel
theorem dL_law_632 : decode cL_law 632 = .ok (.iconst 3, 1) := by decide +kernel
theorem dL_law_633 : decode cL_law 633 = .ok (.iadd, 1) := by decide +kernel
theorem dL_law_634 : decode cL_law 634 = .ok (.iaload, 1) := by decide +kernel
theorem dL_law_635 : decode cL_law 635 = .ok (.aload_n 0, 1) := by decide +kernel
theorem dL_law_636 : decode cL_law 636 = .ok (.iload_n 3, 1) := by decide +kernel
theorem dL_law_637 : decode cL_law 637 = .ok (.iconst 4, 1) := by decide +kernel
theorem dL_law_638 : decode cL_law 638 = .ok (.iadd, 1) := by decide +kernel
theorem dL_law_639 : decode cL_law 639 = .ok (.iaload, 1) := by decide +kernel
theorem dL_law_640 : decode cL_law 640 = .ok (.aload_n 0, 1) := by decide +kernel
theorem dL_law_641 : decode cL_law 641 = .ok (.iload_n 3, 1) := by decide +kernel
theorem dL_law_642 : decode cL_law 642 = .ok (.iconst 5, 1) := by decide +kernel
theorem dL_law_643 : decode cL_law 643 = .ok (.iadd, 1) := by decide +kernel
theorem dL_law_644 : decode cL_law 644 = .ok (.iaload, 1) := by decide +kernel
theorem dL_law_645 : decode cL_law 645 = .ok (.invokevirtual 77, 3) := by decide +kernel
theorem dL_law_648 : decode cL_law 648 = .ok (.aload_n 2, 1) := by decide +kernel
theorem dL_law_649 : decode cL_law 649 = .ok (.aload_n 0, 1) := by decide +kernel
theorem dL_law_650 : decode cL_law 650 = .ok (.iload_n 3, 1) := by decide +kernel
theorem dL_law_651 : decode cL_law 651 = .ok (.iconst 1, 1) := by decide +kernel
theorem dL_law_652 : decode cL_law 652 = .ok (.iadd, 1) := by decide +kernel
theorem dL_law_653 : decode cL_law 653 = .ok (.iaload, 1) := by decide +kernel
theorem dL_law_654 : decode cL_law 654 = .ok (.aload_n 0, 1) := by decide +kernel
theorem dL_law_655 : decode cL_law 655 = .ok (.iload_n 3, 1) := by decide +kernel
theorem dL_law_656 : decode cL_law 656 = .ok (.iconst 2, 1) := by decide +kernel
theorem dL_law_657 : decode cL_law 657 = .ok (.iadd, 1) := by decide +kernel
theorem dL_law_658 : decode cL_law 658 = .ok (.iaload, 1) := by decide +kernel
theorem dL_law_659 : decode cL_law 659 = .ok (.aload_n 0, 1) := by decide +kernel
theorem dL_law_660 : decode cL_law 660 = .ok (.iload_n 3, 1) := by decide +kernel
theorem dL_law_661 : decode cL_law 661 = .ok (.iconst 3, 1) := by decide +kernel
theorem dL_law_662 : decode cL_law 662 = .ok (.iadd, 1) := by decide +kernel
theorem dL_law_663 : decode cL_law 663 = .ok (.iaload, 1) := by decide +kernel
theorem dL_law_664 : decode cL_law 664 = .ok (.aload_n 0, 1) := by decide +kernel
theorem dL_law_665 : decode cL_law 665 = .ok (.iload_n 3, 1) := by decide +kernel
theorem dL_law_666 : decode cL_law 666 = .ok (.iconst 4, 1) := by decide +kernel
theorem dL_law_667 : decode cL_law 667 = .ok (.iadd, 1) := by decide +kernel
theorem dL_law_668 : decode cL_law 668 = .ok (.iaload, 1) := by decide +kernel
theorem dL_law_669 : decode cL_law 669 = .ok (.aload_n 0, 1) := by decide +kernel
theorem dL_law_670 : decode cL_law 670 = .ok (.iload_n 3, 1) := by decide +kernel
theorem dL_law_671 : decode cL_law 671 = .ok (.iconst 5, 1) := by decide +kernel
theorem dL_law_672 : decode cL_law 672 = .ok (.iadd, 1) := by decide +kernel
theorem dL_law_673 : decode cL_law 673 = .ok (.iaload, 1) := by decide +kernel
theorem dL_law_674 : decode cL_law 674 = .ok (.invokevirtual 81, 3) := by decide +kernel
theorem dL_law_677 : decode cL_law 677 = .ok (.if_icmp .eq 405, 3) := by decide +kernel
theorem dL_law_680 : decode cL_law 680 = .ok (.iconst 0, 1) := by decide +kernel
theorem dL_law_681 : decode cL_law 681 = .ok (.ireturn, 1) := by decide +kernel
theorem dL_law_682 : decode cL_law 682 = .ok (.aload_n 1, 1) := by decide +kernel
theorem dL_law_683 : decode cL_law 683 = .ok (.aload_n 0, 1) := by decide +kernel
theorem dL_law_684 : decode cL_law 684 = .ok (.iload_n 3, 1) := by decide +kernel
theorem dL_law_685 : decode cL_law 685 = .ok (.iconst 1, 1) := by decide +kernel
theorem dL_law_686 : decode cL_law 686 = .ok (.iadd, 1) := by decide +kernel
theorem dL_law_687 : decode cL_law 687 = .ok (.iaload, 1) := by decide +kernel
theorem dL_law_688 : decode cL_law 688 = .ok (.aload_n 0, 1) := by decide +kernel
theorem dL_law_689 : decode cL_law 689 = .ok (.iload_n 3, 1) := by decide +kernel
theorem dL_law_690 : decode cL_law 690 = .ok (.iconst 2, 1) := by decide +kernel
theorem dL_law_691 : decode cL_law 691 = .ok (.iadd, 1) := by decide +kernel
theorem dL_law_692 : decode cL_law 692 = .ok (.iaload, 1) := by decide +kernel
theorem dL_law_693 : decode cL_law 693 = .ok (.aload_n 0, 1) := by decide +kernel
theorem dL_law_694 : decode cL_law 694 = .ok (.iload_n 3, 1) := by decide +kernel
theorem dL_law_695 : decode cL_law 695 = .ok (.iconst 3, 1) := by decide +kernel
theorem dL_law_696 : decode cL_law 696 = .ok (.iadd, 1) := by decide +kernel
theorem dL_law_697 : decode cL_law 697 = .ok (.iaload, 1) := by decide +kernel
theorem dL_law_698 : decode cL_law 698 = .ok (.aload_n 0, 1) := by decide +kernel
theorem dL_law_699 : decode cL_law 699 = .ok (.iload_n 3, 1) := by decide +kernel
theorem dL_law_700 : decode cL_law 700 = .ok (.iconst 4, 1) := by decide +kernel
theorem dL_law_701 : decode cL_law 701 = .ok (.iadd, 1) := by decide +kernel
theorem dL_law_702 : decode cL_law 702 = .ok (.iaload, 1) := by decide +kernel
theorem dL_law_703 : decode cL_law 703 = .ok (.aload_n 0, 1) := by decide +kernel
theorem dL_law_704 : decode cL_law 704 = .ok (.iload_n 3, 1) := by decide +kernel
theorem dL_law_705 : decode cL_law 705 = .ok (.iconst 5, 1) := by decide +kernel
theorem dL_law_706 : decode cL_law 706 = .ok (.iadd, 1) := by decide +kernel
theorem dL_law_707 : decode cL_law 707 = .ok (.iaload, 1) := by decide +kernel
theorem dL_law_708 : decode cL_law 708 = .ok (.invokevirtual 82, 3) := by decide +kernel
theorem dL_law_711 : decode cL_law 711 = .ok (.aload_n 2, 1) := by decide +kernel
theorem dL_law_712 : decode cL_law 712 = .ok (.aload_n 0, 1) := by decide +kernel
theorem dL_law_713 : decode cL_law 713 = .ok (.iload_n 3, 1) := by decide +kernel
theorem dL_law_714 : decode cL_law 714 = .ok (.iconst 1, 1) := by decide +kernel
theorem dL_law_715 : decode cL_law 715 = .ok (.iadd, 1) := by decide +kernel
theorem dL_law_716 : decode cL_law 716 = .ok (.iaload, 1) := by decide +kernel
theorem dL_law_717 : decode cL_law 717 = .ok (.aload_n 0, 1) := by decide +kernel
theorem dL_law_718 : decode cL_law 718 = .ok (.iload_n 3, 1) := by decide +kernel
theorem dL_law_719 : decode cL_law 719 = .ok (.iconst 2, 1) := by decide +kernel
theorem dL_law_720 : decode cL_law 720 = .ok (.iadd, 1) := by decide +kernel
theorem dL_law_721 : decode cL_law 721 = .ok (.iaload, 1) := by decide +kernel
theorem dL_law_722 : decode cL_law 722 = .ok (.aload_n 0, 1) := by decide +kernel
theorem dL_law_723 : decode cL_law 723 = .ok (.iload_n 3, 1) := by decide +kernel
theorem dL_law_724 : decode cL_law 724 = .ok (.iconst 3, 1) := by decide +kernel
theorem dL_law_725 : decode cL_law 725 = .ok (.iadd, 1) := by decide +kernel
theorem dL_law_726 : decode cL_law 726 = .ok (.iaload, 1) := by decide +kernel
theorem dL_law_727 : decode cL_law 727 = .ok (.aload_n 0, 1) := by decide +kernel
theorem dL_law_728 : decode cL_law 728 = .ok (.iload_n 3, 1) := by decide +kernel
theorem dL_law_729 : decode cL_law 729 = .ok (.iconst 4, 1) := by decide +kernel
theorem dL_law_730 : decode cL_law 730 = .ok (.iadd, 1) := by decide +kernel
theorem dL_law_731 : decode cL_law 731 = .ok (.iaload, 1) := by decide +kernel
theorem dL_law_732 : decode cL_law 732 = .ok (.aload_n 0, 1) := by decide +kernel
theorem dL_law_733 : decode cL_law 733 = .ok (.iload_n 3, 1) := by decide +kernel
theorem dL_law_734 : decode cL_law 734 = .ok (.iconst 5, 1) := by decide +kernel
theorem dL_law_735 : decode cL_law 735 = .ok (.iadd, 1) := by decide +kernel
theorem dL_law_736 : decode cL_law 736 = .ok (.iaload, 1) := by decide +kernel
theorem dL_law_737 : decode cL_law 737 = .ok (.invokevirtual 85, 3) := by decide +kernel
theorem dL_law_740 : decode cL_law 740 = .ok (.if_icmp .eq 342, 3) := by decide +kernel
theorem dL_law_743 : decode cL_law 743 = .ok (.iconst 0, 1) := by decide +kernel
theorem dL_law_744 : decode cL_law 744 = .ok (.ireturn, 1) := by decide +kernel
theorem dL_law_745 : decode cL_law 745 = .ok (.aload_n 1, 1) := by decide +kernel
theorem dL_law_746 : decode cL_law 746 = .ok (.aload_n 0, 1) := by decide +kernel
theorem dL_law_747 : decode cL_law 747 = .ok (.iload_n 3, 1) := by decide +kernel
theorem dL_law_748 : decode cL_law 748 = .ok (.iconst 1, 1) := by decide +kernel
theorem dL_law_749 : decode cL_law 749 = .ok (.iadd, 1) := by decide +kernel
theorem dL_law_750 : decode cL_law 750 = .ok (.iaload, 1) := by decide +kernel
theorem dL_law_751 : decode cL_law 751 = .ok (.invokevirtual 86, 3) := by decide +kernel
theorem dL_law_754 : decode cL_law 754 = .ok (.aload_n 2, 1) := by decide +kernel
theorem dL_law_755 : decode cL_law 755 = .ok (.aload_n 0, 1) := by decide +kernel
theorem dL_law_756 : decode cL_law 756 = .ok (.iload_n 3, 1) := by decide +kernel
theorem dL_law_757 : decode cL_law 757 = .ok (.iconst 1, 1) := by decide +kernel
theorem dL_law_758 : decode cL_law 758 = .ok (.iadd, 1) := by decide +kernel
theorem dL_law_759 : decode cL_law 759 = .ok (.iaload, 1) := by decide +kernel
theorem dL_law_760 : decode cL_law 760 = .ok (.invokevirtual 89, 3) := by decide +kernel
theorem dL_law_763 : decode cL_law 763 = .ok (.if_icmp .eq 319, 3) := by decide +kernel
theorem dL_law_766 : decode cL_law 766 = .ok (.iconst 0, 1) := by decide +kernel
theorem dL_law_767 : decode cL_law 767 = .ok (.ireturn, 1) := by decide +kernel
theorem dL_law_768 : decode cL_law 768 = .ok (.aload_n 1, 1) := by decide +kernel
theorem dL_law_769 : decode cL_law 769 = .ok (.aload_n 0, 1) := by decide +kernel
theorem dL_law_770 : decode cL_law 770 = .ok (.iload_n 3, 1) := by decide +kernel
theorem dL_law_771 : decode cL_law 771 = .ok (.iconst 1, 1) := by decide +kernel
theorem dL_law_772 : decode cL_law 772 = .ok (.iadd, 1) := by decide +kernel
theorem dL_law_773 : decode cL_law 773 = .ok (.iaload, 1) := by decide +kernel
theorem dL_law_774 : decode cL_law 774 = .ok (.aload_n 0, 1) := by decide +kernel
theorem dL_law_775 : decode cL_law 775 = .ok (.iload_n 3, 1) := by decide +kernel
theorem dL_law_776 : decode cL_law 776 = .ok (.iconst 2, 1) := by decide +kernel
theorem dL_law_777 : decode cL_law 777 = .ok (.iadd, 1) := by decide +kernel
theorem dL_law_778 : decode cL_law 778 = .ok (.iaload, 1) := by decide +kernel
theorem dL_law_779 : decode cL_law 779 = .ok (.aload_n 0, 1) := by decide +kernel
theorem dL_law_780 : decode cL_law 780 = .ok (.iload_n 3, 1) := by decide +kernel
theorem dL_law_781 : decode cL_law 781 = .ok (.iconst 3, 1) := by decide +kernel
theorem dL_law_782 : decode cL_law 782 = .ok (.iadd, 1) := by decide +kernel
theorem dL_law_783 : decode cL_law 783 = .ok (.iaload, 1) := by decide +kernel
theorem dL_law_784 : decode cL_law 784 = .ok (.aload_n 0, 1) := by decide +kernel
theorem dL_law_785 : decode cL_law 785 = .ok (.iload_n 3, 1) := by decide +kernel
theorem dL_law_786 : decode cL_law 786 = .ok (.iconst 4, 1) := by decide +kernel
theorem dL_law_787 : decode cL_law 787 = .ok (.iadd, 1) := by decide +kernel
theorem dL_law_788 : decode cL_law 788 = .ok (.iaload, 1) := by decide +kernel
theorem dL_law_789 : decode cL_law 789 = .ok (.aload_n 0, 1) := by decide +kernel
theorem dL_law_790 : decode cL_law 790 = .ok (.iload_n 3, 1) := by decide +kernel
theorem dL_law_791 : decode cL_law 791 = .ok (.iconst 5, 1) := by decide +kernel
theorem dL_law_792 : decode cL_law 792 = .ok (.iadd, 1) := by decide +kernel
theorem dL_law_793 : decode cL_law 793 = .ok (.iaload, 1) := by decide +kernel
theorem dL_law_794 : decode cL_law 794 = .ok (.invokevirtual 90, 3) := by decide +kernel
theorem dL_law_797 : decode cL_law 797 = .ok (.aload_n 2, 1) := by decide +kernel
theorem dL_law_798 : decode cL_law 798 = .ok (.aload_n 0, 1) := by decide +kernel
theorem dL_law_799 : decode cL_law 799 = .ok (.iload_n 3, 1) := by decide +kernel
theorem dL_law_800 : decode cL_law 800 = .ok (.iconst 1, 1) := by decide +kernel
theorem dL_law_801 : decode cL_law 801 = .ok (.iadd, 1) := by decide +kernel
theorem dL_law_802 : decode cL_law 802 = .ok (.iaload, 1) := by decide +kernel
theorem dL_law_803 : decode cL_law 803 = .ok (.aload_n 0, 1) := by decide +kernel
theorem dL_law_804 : decode cL_law 804 = .ok (.iload_n 3, 1) := by decide +kernel
theorem dL_law_805 : decode cL_law 805 = .ok (.iconst 2, 1) := by decide +kernel
theorem dL_law_806 : decode cL_law 806 = .ok (.iadd, 1) := by decide +kernel
theorem dL_law_807 : decode cL_law 807 = .ok (.iaload, 1) := by decide +kernel
theorem dL_law_808 : decode cL_law 808 = .ok (.aload_n 0, 1) := by decide +kernel
theorem dL_law_809 : decode cL_law 809 = .ok (.iload_n 3, 1) := by decide +kernel
theorem dL_law_810 : decode cL_law 810 = .ok (.iconst 3, 1) := by decide +kernel
theorem dL_law_811 : decode cL_law 811 = .ok (.iadd, 1) := by decide +kernel
theorem dL_law_812 : decode cL_law 812 = .ok (.iaload, 1) := by decide +kernel
theorem dL_law_813 : decode cL_law 813 = .ok (.aload_n 0, 1) := by decide +kernel
theorem dL_law_814 : decode cL_law 814 = .ok (.iload_n 3, 1) := by decide +kernel
theorem dL_law_815 : decode cL_law 815 = .ok (.iconst 4, 1) := by decide +kernel
theorem dL_law_816 : decode cL_law 816 = .ok (.iadd, 1) := by decide +kernel
theorem dL_law_817 : decode cL_law 817 = .ok (.iaload, 1) := by decide +kernel
theorem dL_law_818 : decode cL_law 818 = .ok (.aload_n 0, 1) := by decide +kernel
theorem dL_law_819 : decode cL_law 819 = .ok (.iload_n 3, 1) := by decide +kernel
theorem dL_law_820 : decode cL_law 820 = .ok (.iconst 5, 1) := by decide +kernel
theorem dL_law_821 : decode cL_law 821 = .ok (.iadd, 1) := by decide +kernel
theorem dL_law_822 : decode cL_law 822 = .ok (.iaload, 1) := by decide +kernel
theorem dL_law_823 : decode cL_law 823 = .ok (.invokevirtual 93, 3) := by decide +kernel
theorem dL_law_826 : decode cL_law 826 = .ok (.if_icmp .eq 256, 3) := by decide +kernel
theorem dL_law_829 : decode cL_law 829 = .ok (.iconst 0, 1) := by decide +kernel
theorem dL_law_830 : decode cL_law 830 = .ok (.ireturn, 1) := by decide +kernel
theorem dL_law_831 : decode cL_law 831 = .ok (.aload_n 1, 1) := by decide +kernel
theorem dL_law_832 : decode cL_law 832 = .ok (.aload_n 0, 1) := by decide +kernel
theorem dL_law_833 : decode cL_law 833 = .ok (.iload_n 3, 1) := by decide +kernel
theorem dL_law_834 : decode cL_law 834 = .ok (.iconst 1, 1) := by decide +kernel
theorem dL_law_835 : decode cL_law 835 = .ok (.iadd, 1) := by decide +kernel
theorem dL_law_836 : decode cL_law 836 = .ok (.iaload, 1) := by decide +kernel
theorem dL_law_837 : decode cL_law 837 = .ok (.aload_n 0, 1) := by decide +kernel
theorem dL_law_838 : decode cL_law 838 = .ok (.iload_n 3, 1) := by decide +kernel
theorem dL_law_839 : decode cL_law 839 = .ok (.iconst 2, 1) := by decide +kernel
theorem dL_law_840 : decode cL_law 840 = .ok (.iadd, 1) := by decide +kernel
theorem dL_law_841 : decode cL_law 841 = .ok (.iaload, 1) := by decide +kernel
theorem dL_law_842 : decode cL_law 842 = .ok (.aload_n 0, 1) := by decide +kernel
theorem dL_law_843 : decode cL_law 843 = .ok (.iload_n 3, 1) := by decide +kernel
theorem dL_law_844 : decode cL_law 844 = .ok (.iconst 3, 1) := by decide +kernel
theorem dL_law_845 : decode cL_law 845 = .ok (.iadd, 1) := by decide +kernel
theorem dL_law_846 : decode cL_law 846 = .ok (.iaload, 1) := by decide +kernel
theorem dL_law_847 : decode cL_law 847 = .ok (.aload_n 0, 1) := by decide +kernel
theorem dL_law_848 : decode cL_law 848 = .ok (.iload_n 3, 1) := by decide +kernel
theorem dL_law_849 : decode cL_law 849 = .ok (.iconst 4, 1) := by decide +kernel
theorem dL_law_850 : decode cL_law 850 = .ok (.iadd, 1) := by decide +kernel
theorem dL_law_851 : decode cL_law 851 = .ok (.iaload, 1) := by decide +kernel
theorem dL_law_852 : decode cL_law 852 = .ok (.invokevirtual 94, 3) := by decide +kernel
theorem dL_law_855 : decode cL_law 855 = .ok (.aload_n 2, 1) := by decide +kernel
theorem dL_law_856 : decode cL_law 856 = .ok (.aload_n 0, 1) := by decide +kernel
theorem dL_law_857 : decode cL_law 857 = .ok (.iload_n 3, 1) := by decide +kernel
theorem dL_law_858 : decode cL_law 858 = .ok (.iconst 1, 1) := by decide +kernel
theorem dL_law_859 : decode cL_law 859 = .ok (.iadd, 1) := by decide +kernel
theorem dL_law_860 : decode cL_law 860 = .ok (.iaload, 1) := by decide +kernel
theorem dL_law_861 : decode cL_law 861 = .ok (.aload_n 0, 1) := by decide +kernel
theorem dL_law_862 : decode cL_law 862 = .ok (.iload_n 3, 1) := by decide +kernel
theorem dL_law_863 : decode cL_law 863 = .ok (.iconst 2, 1) := by decide +kernel
theorem dL_law_864 : decode cL_law 864 = .ok (.iadd, 1) := by decide +kernel
theorem dL_law_865 : decode cL_law 865 = .ok (.iaload, 1) := by decide +kernel
theorem dL_law_866 : decode cL_law 866 = .ok (.aload_n 0, 1) := by decide +kernel
theorem dL_law_867 : decode cL_law 867 = .ok (.iload_n 3, 1) := by decide +kernel
theorem dL_law_868 : decode cL_law 868 = .ok (.iconst 3, 1) := by decide +kernel
theorem dL_law_869 : decode cL_law 869 = .ok (.iadd, 1) := by decide +kernel
theorem dL_law_870 : decode cL_law 870 = .ok (.iaload, 1) := by decide +kernel
theorem dL_law_871 : decode cL_law 871 = .ok (.aload_n 0, 1) := by decide +kernel
theorem dL_law_872 : decode cL_law 872 = .ok (.iload_n 3, 1) := by decide +kernel
theorem dL_law_873 : decode cL_law 873 = .ok (.iconst 4, 1) := by decide +kernel
theorem dL_law_874 : decode cL_law 874 = .ok (.iadd, 1) := by decide +kernel
theorem dL_law_875 : decode cL_law 875 = .ok (.iaload, 1) := by decide +kernel
theorem dL_law_876 : decode cL_law 876 = .ok (.invokevirtual 98, 3) := by decide +kernel
theorem dL_law_879 : decode cL_law 879 = .ok (.if_icmp .eq 203, 3) := by decide +kernel
theorem dL_law_882 : decode cL_law 882 = .ok (.iconst 0, 1) := by decide +kernel
theorem dL_law_883 : decode cL_law 883 = .ok (.ireturn, 1) := by decide +kernel
theorem dL_law_884 : decode cL_law 884 = .ok (.aload_n 1, 1) := by decide +kernel
theorem dL_law_885 : decode cL_law 885 = .ok (.invokevirtual 99, 3) := by decide +kernel
theorem dL_law_888 : decode cL_law 888 = .ok (.aload_n 2, 1) := by decide +kernel
theorem dL_law_889 : decode cL_law 889 = .ok (.invokevirtual 102, 3) := by decide +kernel
theorem dL_law_892 : decode cL_law 892 = .ok (.if_icmp .eq 190, 3) := by decide +kernel
theorem dL_law_895 : decode cL_law 895 = .ok (.iconst 0, 1) := by decide +kernel
theorem dL_law_896 : decode cL_law 896 = .ok (.ireturn, 1) := by decide +kernel
theorem dL_law_897 : decode cL_law 897 = .ok (.aload_n 1, 1) := by decide +kernel
theorem dL_law_898 : decode cL_law 898 = .ok (.invokevirtual 103, 3) := by decide +kernel
theorem dL_law_901 : decode cL_law 901 = .ok (.aload_n 2, 1) := by decide +kernel
theorem dL_law_902 : decode cL_law 902 = .ok (.invokevirtual 106, 3) := by decide +kernel
theorem dL_law_905 : decode cL_law 905 = .ok (.if_icmp .eq 177, 3) := by decide +kernel
theorem dL_law_908 : decode cL_law 908 = .ok (.iconst 0, 1) := by decide +kernel
theorem dL_law_909 : decode cL_law 909 = .ok (.ireturn, 1) := by decide +kernel
theorem dL_law_910 : decode cL_law 910 = .ok (.aload_n 1, 1) := by decide +kernel
theorem dL_law_911 : decode cL_law 911 = .ok (.aload_n 0, 1) := by decide +kernel
theorem dL_law_912 : decode cL_law 912 = .ok (.iload_n 3, 1) := by decide +kernel
theorem dL_law_913 : decode cL_law 913 = .ok (.iconst 1, 1) := by decide +kernel
theorem dL_law_914 : decode cL_law 914 = .ok (.iadd, 1) := by decide +kernel
theorem dL_law_915 : decode cL_law 915 = .ok (.iaload, 1) := by decide +kernel
theorem dL_law_916 : decode cL_law 916 = .ok (.aload_n 0, 1) := by decide +kernel
theorem dL_law_917 : decode cL_law 917 = .ok (.iload_n 3, 1) := by decide +kernel
theorem dL_law_918 : decode cL_law 918 = .ok (.iconst 2, 1) := by decide +kernel
theorem dL_law_919 : decode cL_law 919 = .ok (.iadd, 1) := by decide +kernel
theorem dL_law_920 : decode cL_law 920 = .ok (.iaload, 1) := by decide +kernel
theorem dL_law_921 : decode cL_law 921 = .ok (.invokevirtual 107, 3) := by decide +kernel
theorem dL_law_924 : decode cL_law 924 = .ok (.aload_n 2, 1) := by decide +kernel
theorem dL_law_925 : decode cL_law 925 = .ok (.aload_n 0, 1) := by decide +kernel
theorem dL_law_926 : decode cL_law 926 = .ok (.iload_n 3, 1) := by decide +kernel
theorem dL_law_927 : decode cL_law 927 = .ok (.iconst 1, 1) := by decide +kernel
theorem dL_law_928 : decode cL_law 928 = .ok (.iadd, 1) := by decide +kernel
theorem dL_law_929 : decode cL_law 929 = .ok (.iaload, 1) := by decide +kernel
theorem dL_law_930 : decode cL_law 930 = .ok (.aload_n 0, 1) := by decide +kernel
theorem dL_law_931 : decode cL_law 931 = .ok (.iload_n 3, 1) := by decide +kernel
theorem dL_law_932 : decode cL_law 932 = .ok (.iconst 2, 1) := by decide +kernel
theorem dL_law_933 : decode cL_law 933 = .ok (.iadd, 1) := by decide +kernel
theorem dL_law_934 : decode cL_law 934 = .ok (.iaload, 1) := by decide +kernel
theorem dL_law_935 : decode cL_law 935 = .ok (.invokevirtual 110, 3) := by decide +kernel
theorem dL_law_938 : decode cL_law 938 = .ok (.if_icmp .eq 144, 3) := by decide +kernel
theorem dL_law_941 : decode cL_law 941 = .ok (.iconst 0, 1) := by decide +kernel
theorem dL_law_942 : decode cL_law 942 = .ok (.ireturn, 1) := by decide +kernel
theorem dL_law_943 : decode cL_law 943 = .ok (.aload_n 1, 1) := by decide +kernel
theorem dL_law_944 : decode cL_law 944 = .ok (.invokevirtual 111, 3) := by decide +kernel
theorem dL_law_947 : decode cL_law 947 = .ok (.aload_n 2, 1) := by decide +kernel
theorem dL_law_948 : decode cL_law 948 = .ok (.invokevirtual 114, 3) := by decide +kernel
theorem dL_law_951 : decode cL_law 951 = .ok (.if_icmp .eq 131, 3) := by decide +kernel
theorem dL_law_954 : decode cL_law 954 = .ok (.iconst 0, 1) := by decide +kernel
theorem dL_law_955 : decode cL_law 955 = .ok (.ireturn, 1) := by decide +kernel
theorem dL_law_956 : decode cL_law 956 = .ok (.aload_n 1, 1) := by decide +kernel
theorem dL_law_957 : decode cL_law 957 = .ok (.aload_n 0, 1) := by decide +kernel
theorem dL_law_958 : decode cL_law 958 = .ok (.iload_n 3, 1) := by decide +kernel
theorem dL_law_959 : decode cL_law 959 = .ok (.iconst 1, 1) := by decide +kernel
theorem dL_law_960 : decode cL_law 960 = .ok (.iadd, 1) := by decide +kernel
theorem dL_law_961 : decode cL_law 961 = .ok (.iaload, 1) := by decide +kernel
theorem dL_law_962 : decode cL_law 962 = .ok (.aload_n 0, 1) := by decide +kernel
theorem dL_law_963 : decode cL_law 963 = .ok (.iload_n 3, 1) := by decide +kernel
theorem dL_law_964 : decode cL_law 964 = .ok (.iconst 2, 1) := by decide +kernel
theorem dL_law_965 : decode cL_law 965 = .ok (.iadd, 1) := by decide +kernel
theorem dL_law_966 : decode cL_law 966 = .ok (.iaload, 1) := by decide +kernel
theorem dL_law_967 : decode cL_law 967 = .ok (.aload_n 0, 1) := by decide +kernel
theorem dL_law_968 : decode cL_law 968 = .ok (.iload_n 3, 1) := by decide +kernel
theorem dL_law_969 : decode cL_law 969 = .ok (.iconst 3, 1) := by decide +kernel
theorem dL_law_970 : decode cL_law 970 = .ok (.iadd, 1) := by decide +kernel
theorem dL_law_971 : decode cL_law 971 = .ok (.iaload, 1) := by decide +kernel
theorem dL_law_972 : decode cL_law 972 = .ok (.invokevirtual 115, 3) := by decide +kernel
theorem dL_law_975 : decode cL_law 975 = .ok (.aload_n 2, 1) := by decide +kernel
theorem dL_law_976 : decode cL_law 976 = .ok (.aload_n 0, 1) := by decide +kernel
theorem dL_law_977 : decode cL_law 977 = .ok (.iload_n 3, 1) := by decide +kernel
theorem dL_law_978 : decode cL_law 978 = .ok (.iconst 1, 1) := by decide +kernel
theorem dL_law_979 : decode cL_law 979 = .ok (.iadd, 1) := by decide +kernel
theorem dL_law_980 : decode cL_law 980 = .ok (.iaload, 1) := by decide +kernel
theorem dL_law_981 : decode cL_law 981 = .ok (.aload_n 0, 1) := by decide +kernel
theorem dL_law_982 : decode cL_law 982 = .ok (.iload_n 3, 1) := by decide +kernel
theorem dL_law_983 : decode cL_law 983 = .ok (.iconst 2, 1) := by decide +kernel
theorem dL_law_984 : decode cL_law 984 = .ok (.iadd, 1) := by decide +kernel
theorem dL_law_985 : decode cL_law 985 = .ok (.iaload, 1) := by decide +kernel
theorem dL_law_986 : decode cL_law 986 = .ok (.aload_n 0, 1) := by decide +kernel
theorem dL_law_987 : decode cL_law 987 = .ok (.iload_n 3, 1) := by decide +kernel
theorem dL_law_988 : decode cL_law 988 = .ok (.iconst 3, 1) := by decide +kernel
theorem dL_law_989 : decode cL_law 989 = .ok (.iadd, 1) := by decide +kernel
theorem dL_law_990 : decode cL_law 990 = .ok (.iaload, 1) := by decide +kernel
theorem dL_law_991 : decode cL_law 991 = .ok (.invokevirtual 118, 3) := by decide +kernel
theorem dL_law_994 : decode cL_law 994 = .ok (.if_icmp .eq 88, 3) := by decide +kernel
theorem dL_law_997 : decode cL_law 997 = .ok (.iconst 0, 1) := by decide +kernel
theorem dL_law_998 : decode cL_law 998 = .ok (.ireturn, 1) := by decide +kernel
theorem dL_law_999 : decode cL_law 999 = .ok (.aload_n 1, 1) := by decide +kernel
theorem dL_law_1000 : decode cL_law 1000 = .ok (.aload_n 0, 1) := by decide +kernel
theorem dL_law_1001 : decode cL_law 1001 = .ok (.iload_n 3, 1) := by decide +kernel
theorem dL_law_1002 : decode cL_law 1002 = .ok (.iconst 1, 1) := by decide +kernel
theorem dL_law_1003 : decode cL_law 1003 = .ok (.iadd, 1) := by decide +kernel
theorem dL_law_1004 : decode cL_law 1004 = .ok (.iaload, 1) := by decide +kernel
theorem dL_law_1005 : decode cL_law 1005 = .ok (.invokevirtual 119, 3) := by decide +kernel
theorem dL_law_1008 : decode cL_law 1008 = .ok (.aload_n 2, 1) := by decide +kernel
theorem dL_law_1009 : decode cL_law 1009 = .ok (.aload_n 0, 1) := by decide +kernel
theorem dL_law_1010 : decode cL_law 1010 = .ok (.iload_n 3, 1) := by decide +kernel
theorem dL_law_1011 : decode cL_law 1011 = .ok (.iconst 1, 1) := by decide +kernel
theorem dL_law_1012 : decode cL_law 1012 = .ok (.iadd, 1) := by decide +kernel
theorem dL_law_1013 : decode cL_law 1013 = .ok (.iaload, 1) := by decide +kernel
theorem dL_law_1014 : decode cL_law 1014 = .ok (.invokevirtual 122, 3) := by decide +kernel
theorem dL_law_1017 : decode cL_law 1017 = .ok (.if_icmp .eq 65, 3) := by decide +kernel
theorem dL_law_1020 : decode cL_law 1020 = .ok (.iconst 0, 1) := by decide +kernel
theorem dL_law_1021 : decode cL_law 1021 = .ok (.ireturn, 1) := by decide +kernel
theorem dL_law_1022 : decode cL_law 1022 = .ok (.aload_n 1, 1) := by decide +kernel
theorem dL_law_1023 : decode cL_law 1023 = .ok (.aload_n 0, 1) := by decide +kernel
theorem dL_law_1024 : decode cL_law 1024 = .ok (.iload_n 3, 1) := by decide +kernel
theorem dL_law_1025 : decode cL_law 1025 = .ok (.iconst 1, 1) := by decide +kernel
theorem dL_law_1026 : decode cL_law 1026 = .ok (.iadd, 1) := by decide +kernel
theorem dL_law_1027 : decode cL_law 1027 = .ok (.iaload, 1) := by decide +kernel
theorem dL_law_1028 : decode cL_law 1028 = .ok (.invokevirtual 123, 3) := by decide +kernel
theorem dL_law_1031 : decode cL_law 1031 = .ok (.aload_n 2, 1) := by decide +kernel
theorem dL_law_1032 : decode cL_law 1032 = .ok (.aload_n 0, 1) := by decide +kernel
theorem dL_law_1033 : decode cL_law 1033 = .ok (.iload_n 3, 1) := by decide +kernel
theorem dL_law_1034 : decode cL_law 1034 = .ok (.iconst 1, 1) := by decide +kernel
theorem dL_law_1035 : decode cL_law 1035 = .ok (.iadd, 1) := by decide +kernel
theorem dL_law_1036 : decode cL_law 1036 = .ok (.iaload, 1) := by decide +kernel
theorem dL_law_1037 : decode cL_law 1037 = .ok (.invokevirtual 126, 3) := by decide +kernel
theorem dL_law_1040 : decode cL_law 1040 = .ok (.if_icmp .eq 42, 3) := by decide +kernel
theorem dL_law_1043 : decode cL_law 1043 = .ok (.iconst 0, 1) := by decide +kernel
theorem dL_law_1044 : decode cL_law 1044 = .ok (.ireturn, 1) := by decide +kernel
theorem dL_law_1045 : decode cL_law 1045 = .ok (.aload_n 1, 1) := by decide +kernel
theorem dL_law_1046 : decode cL_law 1046 = .ok (.aload_n 0, 1) := by decide +kernel
theorem dL_law_1047 : decode cL_law 1047 = .ok (.iload_n 3, 1) := by decide +kernel
theorem dL_law_1048 : decode cL_law 1048 = .ok (.iconst 1, 1) := by decide +kernel
theorem dL_law_1049 : decode cL_law 1049 = .ok (.iadd, 1) := by decide +kernel
theorem dL_law_1050 : decode cL_law 1050 = .ok (.iaload, 1) := by decide +kernel
theorem dL_law_1051 : decode cL_law 1051 = .ok (.invokevirtual 127, 3) := by decide +kernel
theorem dL_law_1054 : decode cL_law 1054 = .ok (.aload_n 2, 1) := by decide +kernel
theorem dL_law_1055 : decode cL_law 1055 = .ok (.aload_n 0, 1) := by decide +kernel
theorem dL_law_1056 : decode cL_law 1056 = .ok (.iload_n 3, 1) := by decide +kernel
theorem dL_law_1057 : decode cL_law 1057 = .ok (.iconst 1, 1) := by decide +kernel
theorem dL_law_1058 : decode cL_law 1058 = .ok (.iadd, 1) := by decide +kernel
theorem dL_law_1059 : decode cL_law 1059 = .ok (.iaload, 1) := by decide +kernel
theorem dL_law_1060 : decode cL_law 1060 = .ok (.invokevirtual 130, 3) := by decide +kernel
theorem dL_law_1063 : decode cL_law 1063 = .ok (.if_icmp .eq 19, 3) := by decide +kernel
theorem dL_law_1066 : decode cL_law 1066 = .ok (.iconst 0, 1) := by decide +kernel
theorem dL_law_1067 : decode cL_law 1067 = .ok (.ireturn, 1) := by decide +kernel
theorem dL_law_1068 : decode cL_law 1068 = .ok (.aload_n 1, 1) := by decide +kernel
theorem dL_law_1069 : decode cL_law 1069 = .ok (.invokevirtual 131, 3) := by decide +kernel
theorem dL_law_1072 : decode cL_law 1072 = .ok (.aload_n 2, 1) := by decide +kernel
theorem dL_law_1073 : decode cL_law 1073 = .ok (.invokevirtual 135, 3) := by decide +kernel
theorem dL_law_1076 : decode cL_law 1076 = .ok (.lcmp, 1) := by decide +kernel
theorem dL_law_1077 : decode cL_law 1077 = .ok (.ifCond .eq 5, 3) := by decide +kernel
theorem dL_law_1080 : decode cL_law 1080 = .ok (.iconst 0, 1) := by decide +kernel
theorem dL_law_1081 : decode cL_law 1081 = .ok (.ireturn, 1) := by decide +kernel
theorem dL_law_1082 : decode cL_law 1082 = .ok (.iinc 3 6, 3) := by decide +kernel
theorem dL_law_1085 : decode cL_law 1085 = .ok (.goto (-1067), 3) := by decide +kernel
theorem dL_law_1088 : decode cL_law 1088 = .ok (.iconst 1, 1) := by decide +kernel
theorem dL_law_1089 : decode cL_law 1089 = .ok (.ireturn, 1) := by decide +kernel
