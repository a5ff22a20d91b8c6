theorem dX9_undo_10 : decode cX9_undo 10 = .ok (.ifCond .ne 6, 3) := by decide +kernel
theorem dX9_undo_13 : decode cX9_undo 13 = .ok (.bipush (-2), 2) := by decide +kernel
theorem dX9_undo_15 : decode cX9_undo 15 = .ok (.ireturn, 1) := by decide +kernel
theorem dX9_undo_16 : decode cX9_undo 16 = .ok (.aload_n 0, 1) := by decide +kernel
theorem dX9_undo_17 : decode cX9_undo 17 = .ok (.getfield 19, 3) := by decide +kernel
theorem dX9_undo_20 : decode cX9_undo 20 = .ok (.getfield 58, 3) := by decide +kernel
theorem dX9_undo_23 : decode cX9_undo 23 = .ok (.invokevirtual 148, 3) := by decide +kernel
theorem dX9_undo_26 : decode cX9_undo 26 = .ok (.aload_n 0, 1) := by decide +kernel
theorem dX9_undo_27 : decode cX9_undo 27 = .ok (.getfield 19, 3) := by decide +kernel
theorem dX9_undo_30 : decode cX9_undo 30 = .ok (.getfield 58, 3) := by decide +kernel
theorem dX9_undo_33 : decode cX9_undo 33 = .ok (.getfield 145, 3) := by decide +kernel
theorem dX9_undo_36 : decode cX9_undo 36 = .ok (.ireturn, 1) := by decide +kernel
theorem dX9_now_0 : decode cX9_now 0 = .ok (.iload_n 1, 1) := by decide +kernel
theorem dX9_now_1 : decode cX9_now 1 = .ok (.tableswitch 117 0 6 #[43, 57, 71, 85, 93, 101, 109], 43) := by decide +kernel
theorem dX9_now_44 : decode cX9_now 44 = .ok (.aload_n 0, 1) := by decide +kernel
theorem dX9_now_45 : decode cX9_now 45 = .ok (.getfield 19, 3) := by decide +kernel
theorem dX9_now_48 : decode cX9_now 48 = .ok (.getfield 58, 3) := by decide +kernel
theorem dX9_now_51 : decode cX9_now 51 = .ok (.getfield 98, 3) := by decide +kernel
theorem dX9_now_54 : decode cX9_now 54 = .ok (.getfield 135, 3) := by decide +kernel
theorem dX9_now_57 : decode cX9_now 57 = .ok (.ireturn, 1) := by decide +kernel
theorem dX9_now_58 : decode cX9_now 58 = .ok (.aload_n 0, 1) := by decide +kernel
theorem dX9_now_59 : decode cX9_now 59 = .ok (.getfield 19, 3) := by decide +kernel
theorem dX9_now_62 : decode cX9_now 62 = .ok (.getfield 58, 3) := by decide +kernel
theorem dX9_now_65 : decode cX9_now 65 = .ok (.getfield 98, 3) := by decide +kernel
theorem dX9_now_68 : decode cX9_now 68 = .ok (.getfield 138, 3) := by decide +kernel
theorem dX9_now_71 : decode cX9_now 71 = .ok (.ireturn, 1) := by decide +kernel
theorem dX9_now_72 : decode cX9_now 72 = .ok (.aload_n 0, 1) := by decide +kernel
theorem dX9_now_73 : decode cX9_now 73 = .ok (.getfield 19, 3) := by decide +kernel
theorem dX9_now_76 : decode cX9_now 76 = .ok (.getfield 58, 3) := by decide +kernel
theorem dX9_now_79 : decode cX9_now 79 = .ok (.getfield 98, 3) := by decide +kernel
theorem dX9_now_82 : decode cX9_now 82 = .ok (.getfield 132, 3) := by decide +kernel
theorem dX9_now_85 : decode cX9_now 85 = .ok (.ireturn, 1) := by decide +kernel
theorem dX9_now_86 : decode cX9_now 86 = .ok (.aload_n 0, 1) := by decide +kernel
theorem dX9_now_87 : decode cX9_now 87 = .ok (.getfield 19, 3) := by decide +kernel
theorem dX9_now_90 : decode cX9_now 90 = .ok (.invokevirtual 151, 3) := by decide +kernel
theorem dX9_now_93 : decode cX9_now 93 = .ok (.ireturn, 1) := by decide +kernel
theorem dX9_now_94 : decode cX9_now 94 = .ok (.aload_n 0, 1) := by decide +kernel
theorem dX9_now_95 : decode cX9_now 95 = .ok (.getfield 19, 3) := by decide +kernel
theorem dX9_now_98 : decode cX9_now 98 = .ok (.invokestatic 154, 3) := by decide +kernel
theorem dX9_now_101 : decode cX9_now 101 = .ok (.ireturn, 1) := by decide +kernel
theorem dX9_now_102 : decode cX9_now 102 = .ok (.aload_n 0, 1) := by decide +kernel
theorem dX9_now_103 : decode cX9_now 103 = .ok (.getfield 19, 3) := by decide +kernel
theorem dX9_now_106 : decode cX9_now 106 = .ok (.invokestatic 160, 3) := by decide +kernel
theorem dX9_now_109 : decode cX9_now 109 = .ok (.ireturn, 1) := by decide +kernel
theorem dX9_now_110 : decode cX9_now 110 = .ok (.aload_n 0, 1) := by decide +kernel
theorem dX9_now_111 : decode cX9_now 111 = .ok (.getfield 19, 3) := by decide +kernel
theorem dX9_now_114 : decode cX9_now 114 = .ok (.invokestatic 163, 3) := by decide +kernel
theorem dX9_now_117 : decode cX9_now 117 = .ok (.ireturn, 1) := by decide +kernel
theorem dX9_now_118 : decode cX9_now 118 = .ok (.iconst (-1), 1) := by decide +kernel
theorem dX9_now_119 : decode cX9_now 119 = .ok (.ireturn, 1) := by decide +kernel
theorem dX9_light_0 : decode cX9_light 0 = .ok (.iload_n 1, 1) := by decide +kernel
theorem dX9_light_1 : decode cX9_light 1 = .ok (.iload_n 2, 1) := by decide +kernel
theorem dX9_light_2 : decode cX9_light 2 = .ok (.invokestatic 166, 3) := by decide +kernel
theorem dX9_light_5 : decode cX9_light 5 = .ok (.ifCond .eq 10, 3) := by decide +kernel
theorem dX9_light_8 : decode cX9_light 8 = .ok (.iload_n 3, 1) := by decide +kernel
theorem dX9_light_9 : decode cX9_light 9 = .ok (.invokestatic 170, 3) := by decide +kernel
theorem dX9_light_12 : decode cX9_light 12 = .ok (.ifCond .ne 5, 3) := by decide +kernel
theorem dX9_light_15 : decode cX9_light 15 = .ok (.iconst (-1), 1) := by decide +kernel
theorem dX9_light_16 : decode cX9_light 16 = .ok (.ireturn, 1) := by decide +kernel
theorem dX9_light_17 : decode cX9_light 17 = .ok (.aload_n 0, 1) := by decide +kernel
theorem dX9_light_18 : decode cX9_light 18 = .ok (.getfield 19, 3) := by decide +kernel
theorem dX9_light_21 : decode cX9_light 21 = .ok (.iload_n 1, 1) := by decide +kernel
theorem dX9_light_22 : decode cX9_light 22 = .ok (.iload_n 2, 1) := by decide +kernel
theorem dX9_light_23 : decode cX9_light 23 = .ok (.invokestatic 173, 3) := by decide +kernel
theorem dX9_light_26 : decode cX9_light 26 = .ok (.iload_n 3, 1) := by decide +kernel
theorem dX9_light_27 : decode cX9_light 27 = .ok (.invokevirtual 176, 3) := by decide +kernel
theorem dX9_light_30 : decode cX9_light 30 = .ok (.ireturn, 1) := by decide +kernel
theorem dX9_lit_0 : decode cX9_lit 0 = .ok (.iload_n 1, 1) := by decide +kernel
theorem dX9_lit_1 : decode cX9_lit 1 = .ok (.invokestatic 179, 3) := by decide +kernel
theorem dX9_lit_4 : decode cX9_lit 4 = .ok (.ifCond .eq 19, 3) := by decide +kernel
theorem dX9_lit_7 : decode cX9_lit 7 = .ok (.iload_n 2, 1) := by decide +kernel
theorem dX9_lit_8 : decode cX9_lit 8 = .ok (.invokestatic 170, 3) := by decide +kernel
theorem dX9_lit_11 : decode cX9_lit 11 = .ok (.ifCond .eq 12, 3) := by decide +kernel
theorem dX9_lit_14 : decode cX9_lit 14 = .ok (.iload_n 3, 1) := by decide +kernel
theorem dX9_lit_15 : decode cX9_lit 15 = .ok (.ifCond .lt 8, 3) := by decide +kernel
theorem dX9_lit_18 : decode cX9_lit 18 = .ok (.iload_n 3, 1) := by decide +kernel
theorem dX9_lit_19 : decode cX9_lit 19 = .ok (.iconst 1, 1) := by decide +kernel
theorem dX9_lit_20 : decode cX9_lit 20 = .ok (.if_icmp .le 5, 3) := by decide +kernel
theorem dX9_lit_23 : decode cX9_lit 23 = .ok (.iconst (-1), 1) := by decide +kernel
theorem dX9_lit_24 : decode cX9_lit 24 = .ok (.ireturn, 1) := by decide +kernel
theorem dX9_lit_25 : decode cX9_lit 25 = .ok (.bipush (-9), 2) := by decide +kernel
theorem dX9_lit_27 : decode cX9_lit 27 = .ok (.istore 4, 2) := by decide +kernel
theorem dX9_lit_29 : decode cX9_lit 29 = .ok (.iconst 0, 1) := by decide +kernel
theorem dX9_lit_30 : decode cX9_lit 30 = .ok (.istore 5, 2) := by decide +kernel
theorem dX9_lit_32 : decode cX9_lit 32 = .ok (.bipush 83, 2) := by decide +kernel
theorem dX9_lit_34 : decode cX9_lit 34 = .ok (.istore 6, 2) := by decide +kernel
theorem dX9_lit_36 : decode cX9_lit 36 = .ok (.iload 6, 2) := by decide +kernel
theorem dX9_lit_38 : decode cX9_lit 38 = .ok (.ifCond .lt 30, 3) := by decide +kernel
theorem dX9_lit_41 : decode cX9_lit 41 = .ok (.aload_n 0, 1) := by decide +kernel
theorem dX9_lit_42 : decode cX9_lit 42 = .ok (.getfield 19, 3) := by decide +kernel
theorem dX9_lit_45 : decode cX9_lit 45 = .ok (.iload 6, 2) := by decide +kernel
theorem dX9_lit_47 : decode cX9_lit 47 = .ok (.iload_n 2, 1) := by decide +kernel
theorem dX9_lit_48 : decode cX9_lit 48 = .ok (.invokevirtual 176, 3) := by decide +kernel
theorem dX9_lit_51 : decode cX9_lit 51 = .ok (.iload_n 1, 1) := by decide +kernel
theorem dX9_lit_52 : decode cX9_lit 52 = .ok (.if_icmp .ne 10, 3) := by decide +kernel
theorem dX9_lit_55 : decode cX9_lit 55 = .ok (.iload 6, 2) := by decide +kernel
theorem dX9_lit_57 : decode cX9_lit 57 = .ok (.istore 4, 2) := by decide +kernel
theorem dX9_lit_59 : decode cX9_lit 59 = .ok (.iinc 5 1, 3) := by decide +kernel
theorem dX9_lit_62 : decode cX9_lit 62 = .ok (.iinc 6 (-1), 3) := by decide +kernel
theorem dX9_lit_65 : decode cX9_lit 65 = .ok (.goto (-29), 3) := by decide +kernel
theorem dX9_lit_68 : decode cX9_lit 68 = .ok (.iload_n 3, 1) := by decide +kernel
theorem dX9_lit_69 : decode cX9_lit 69 = .ok (.ifCond .ne 8, 3) := by decide +kernel
theorem dX9_lit_72 : decode cX9_lit 72 = .ok (.iload 5, 2) := by decide +kernel
theorem dX9_lit_74 : decode cX9_lit 74 = .ok (.goto 5, 3) := by decide +kernel
theorem dX9_lit_77 : decode cX9_lit 77 = .ok (.iload 4, 2) := by decide +kernel
theorem dX9_lit_79 : decode cX9_lit 79 = .ok (.ireturn, 1) := by decide +kernel
theorem dX9_when_0 : decode cX9_when 0 = .ok (.iload_n 1, 1) := by decide +kernel
theorem dX9_when_1 : decode cX9_when 1 = .ok (.iload_n 2, 1) := by decide +kernel
theorem dX9_when_2 : decode cX9_when 2 = .ok (.invokestatic 166, 3) := by decide +kernel
theorem dX9_when_5 : decode cX9_when 5 = .ok (.ifCond .eq 10, 3) := by decide +kernel
theorem dX9_when_8 : decode cX9_when 8 = .ok (.iload_n 3, 1) := by decide +kernel
theorem dX9_when_9 : decode cX9_when 9 = .ok (.invokestatic 179, 3) := by decide +kernel
theorem dX9_when_12 : decode cX9_when 12 = .ok (.ifCond .ne 5, 3) := by decide +kernel
theorem dX9_when_15 : decode cX9_when 15 = .ok (.iconst (-1), 1) := by decide +kernel
theorem dX9_when_16 : decode cX9_when 16 = .ok (.ireturn, 1) := by decide +kernel
theorem dX9_when_17 : decode cX9_when 17 = .ok (.iconst 0, 1) := by decide +kernel
theorem dX9_when_18 : decode cX9_when 18 = .ok (.istore 4, 2) := by decide +kernel
theorem dX9_when_20 : decode cX9_when 20 = .ok (.iload 4, 2) := by decide +kernel
theorem dX9_when_22 : decode cX9_when 22 = .ok (.bipush 8, 2) := by decide +kernel
theorem dX9_when_24 : decode cX9_when 24 = .ok (.if_icmp .ge 30, 3) := by decide +kernel
theorem dX9_when_27 : decode cX9_when 27 = .ok (.aload_n 0, 1) := by decide +kernel
theorem dX9_when_28 : decode cX9_when 28 = .ok (.getfield 19, 3) := by decide +kernel
theorem dX9_when_31 : decode cX9_when 31 = .ok (.iload_n 1, 1) := by decide +kernel
theorem dX9_when_32 : decode cX9_when 32 = .ok (.iload_n 2, 1) := by decide +kernel
theorem dX9_when_33 : decode cX9_when 33 = .ok (.invokestatic 173, 3) := by decide +kernel
theorem dX9_when_36 : decode cX9_when 36 = .ok (.iload 4, 2) := by decide +kernel
theorem dX9_when_38 : decode cX9_when 38 = .ok (.invokevirtual 176, 3) := by decide +kernel
theorem dX9_when_41 : decode cX9_when 41 = .ok (.iload_n 3, 1) := by decide +kernel
theorem dX9_when_42 : decode cX9_when 42 = .ok (.if_icmp .ne 6, 3) := by decide +kernel
theorem dX9_when_45 : decode cX9_when 45 = .ok (.iload 4, 2) := by decide +kernel
theorem dX9_when_47 : decode cX9_when 47 = .ok (.ireturn, 1) := by decide +kernel
theorem dX9_when_48 : decode cX9_when 48 = .ok (.iinc 4 1, 3) := by decide +kernel
theorem dX9_when_51 : decode cX9_when 51 = .ok (.goto (-31), 3) := by decide +kernel
theorem dX9_when_54 : decode cX9_when 54 = .ok (.bipush (-9), 2) := by decide +kernel
theorem dX9_when_56 : decode cX9_when 56 = .ok (.ireturn, 1) := by decide +kernel
theorem dX9_mix_0 : decode cX9_mix 0 = .ok (.iload_n 1, 1) := by decide +kernel
theorem dX9_mix_1 : decode cX9_mix 1 = .ok (.iload_n 2, 1) := by decide +kernel
theorem dX9_mix_2 : decode cX9_mix 2 = .ok (.invokestatic 166, 3) := by decide +kernel
theorem dX9_mix_5 : decode cX9_mix 5 = .ok (.ifCond .eq 29, 3) := by decide +kernel
theorem dX9_mix_8 : decode cX9_mix 8 = .ok (.iload_n 3, 1) := by decide +kernel
theorem dX9_mix_9 : decode cX9_mix 9 = .ok (.invokestatic 170, 3) := by decide +kernel
theorem dX9_mix_12 : decode cX9_mix 12 = .ok (.ifCond .eq 22, 3) := by decide +kernel
theorem dX9_mix_15 : decode cX9_mix 15 = .ok (.iload 4, 2) := by decide +kernel
theorem dX9_mix_17 : decode cX9_mix 17 = .ok (.invokestatic 179, 3) := by decide +kernel
theorem dX9_mix_20 : decode cX9_mix 20 = .ok (.ifCond .eq 14, 3) := by decide +kernel
theorem dX9_mix_23 : decode cX9_mix 23 = .ok (.iload 5, 2) := by decide +kernel
theorem dX9_mix_25 : decode cX9_mix 25 = .ok (.ifCond .lt 9, 3) := by decide +kernel
theorem dX9_mix_28 : decode cX9_mix 28 = .ok (.iload 5, 2) := by decide +kernel
theorem dX9_mix_30 : decode cX9_mix 30 = .ok (.iconst 2, 1) := by decide +kernel
theorem dX9_mix_31 : decode cX9_mix 31 = .ok (.if_icmp .le 5, 3) := by decide +kernel
theorem dX9_mix_34 : decode cX9_mix 34 = .ok (.iconst (-1), 1) := by decide +kernel
theorem dX9_mix_35 : decode cX9_mix 35 = .ok (.ireturn, 1) := by decide +kernel
theorem dX9_mix_36 : decode cX9_mix 36 = .ok (.aload_n 0, 1) := by decide +kernel
theorem dX9_mix_37 : decode cX9_mix 37 = .ok (.getfield 26, 3) := by decide +kernel
theorem dX9_mix_40 : decode cX9_mix 40 = .ok (.aload_n 0, 1) := by decide +kernel
theorem dX9_mix_41 : decode cX9_mix 41 = .ok (.getfield 19, 3) := by decide +kernel
theorem dX9_mix_44 : decode cX9_mix 44 = .ok (.iload_n 1, 1) := by decide +kernel
theorem dX9_mix_45 : decode cX9_mix 45 = .ok (.iload_n 2, 1) := by decide +kernel
theorem dX9_mix_46 : decode cX9_mix 46 = .ok (.invokestatic 173, 3) := by decide +kernel
theorem dX9_mix_49 : decode cX9_mix 49 = .ok (.iload_n 3, 1) := by decide +kernel
theorem dX9_mix_50 : decode cX9_mix 50 = .ok (.iload 4, 2) := by decide +kernel
theorem dX9_mix_52 : decode cX9_mix 52 = .ok (.invokevirtual 182, 3) := by decide +kernel
theorem dX9_mix_55 : decode cX9_mix 55 = .ok (.aload_n 0, 1) := by decide +kernel
theorem dX9_mix_56 : decode cX9_mix 56 = .ok (.getfield 26, 3) := by decide +kernel
theorem dX9_mix_59 : decode cX9_mix 59 = .ok (.getfield 186, 3) := by decide +kernel
theorem dX9_mix_62 : decode cX9_mix 62 = .ok (.ifCond .ne 6, 3) := by decide +kernel
theorem dX9_mix_65 : decode cX9_mix 65 = .ok (.bipush (-9), 2) := by decide +kernel
theorem dX9_mix_67 : decode cX9_mix 67 = .ok (.ireturn, 1) := by decide +kernel
theorem dX9_mix_68 : decode cX9_mix 68 = .ok (.iload 5, 2) := by decide +kernel
theorem dX9_mix_70 : decode cX9_mix 70 = .ok (.lookupswitch 42 #[(0, 26), (1, 34)], 26) := by decide +kernel
theorem dX9_mix_96 : decode cX9_mix 96 = .ok (.aload_n 0, 1) := by decide +kernel
theorem dX9_mix_97 : decode cX9_mix 97 = .ok (.getfield 26, 3) := by decide +kernel
theorem dX9_mix_100 : decode cX9_mix 100 = .ok (.getfield 190, 3) := by decide +kernel
theorem dX9_mix_103 : decode cX9_mix 103 = .ok (.ireturn, 1) := by decide +kernel
theorem dX9_mix_104 : decode cX9_mix 104 = .ok (.aload_n 0, 1) := by decide +kernel
theorem dX9_mix_105 : decode cX9_mix 105 = .ok (.getfield 26, 3) := by decide +kernel
theorem dX9_mix_108 : decode cX9_mix 108 = .ok (.getfield 193, 3) := by decide +kernel
theorem dX9_mix_111 : decode cX9_mix 111 = .ok (.ireturn, 1) := by decide +kernel
theorem dX9_mix_112 : decode cX9_mix 112 = .ok (.aload_n 0, 1) := by decide +kernel
theorem dX9_mix_113 : decode cX9_mix 113 = .ok (.getfield 26, 3) := by decide +kernel
theorem dX9_mix_116 : decode cX9_mix 116 = .ok (.getfield 196, 3) := by decide +kernel
theorem dX9_mix_119 : decode cX9_mix 119 = .ok (.ireturn, 1) := by decide +kernel
theorem dX9_child_0 : decode cX9_child 0 = .ok (.iload_n 1, 1) := by decide +kernel
theorem dX9_child_1 : decode cX9_child 1 = .ok (.iload_n 2, 1) := by decide +kernel
theorem dX9_child_2 : decode cX9_child 2 = .ok (.invokestatic 166, 3) := by decide +kernel
theorem dX9_child_5 : decode cX9_child 5 = .ok (.ifCond .eq 23, 3) := by decide +kernel
theorem dX9_child_8 : decode cX9_child 8 = .ok (.iload_n 3, 1) := by decide +kernel
theorem dX9_child_9 : decode cX9_child 9 = .ok (.invokestatic 170, 3) := by decide +kernel
theorem dX9_child_12 : decode cX9_child 12 = .ok (.ifCond .eq 16, 3) := by decide +kernel
theorem dX9_child_15 : decode cX9_child 15 = .ok (.iload 4, 2) := by decide +kernel
theorem dX9_child_17 : decode cX9_child 17 = .ok (.invokestatic 179, 3) := by decide +kernel
theorem dX9_child_20 : decode cX9_child 20 = .ok (.ifCond .eq 8, 3) := by decide +kernel
theorem dX9_child_23 : decode cX9_child 23 = .ok (.iload 4, 2) := by decide +kernel
theorem dX9_child_25 : decode cX9_child 25 = .ok (.ifCond .ne 5, 3) := by decide +kernel
theorem dX9_child_28 : decode cX9_child 28 = .ok (.iconst (-1), 1) := by decide +kernel
theorem dX9_child_29 : decode cX9_child 29 = .ok (.ireturn, 1) := by decide +kernel
theorem dX9_child_30 : decode cX9_child 30 = .ok (.iload 5, 2) := by decide +kernel
theorem dX9_child_32 : decode cX9_child 32 = .ok (.iconst (-1), 1) := by decide +kernel
theorem dX9_child_33 : decode cX9_child 33 = .ok (.if_icmp .lt 10, 3) := by decide +kernel
theorem dX9_child_36 : decode cX9_child 36 = .ok (.iload 5, 2) := by decide +kernel
theorem dX9_child_38 : decode cX9_child 38 = .ok (.bipush 8, 2) := by decide +kernel
theorem dX9_child_40 : decode cX9_child 40 = .ok (.if_icmp .lt 5, 3) := by decide +kernel
theorem dX9_child_43 : decode cX9_child 43 = .ok (.iconst (-1), 1) := by decide +kernel
theorem dX9_child_44 : decode cX9_child 44 = .ok (.ireturn, 1) := by decide +kernel
theorem dX9_child_45 : decode cX9_child 45 = .ok (.aload_n 0, 1) := by decide +kernel
theorem dX9_child_46 : decode cX9_child 46 = .ok (.getfield 33, 3) := by decide +kernel
theorem dX9_child_49 : decode cX9_child 49 = .ok (.aload_n 0, 1) := by decide +kernel
theorem dX9_child_50 : decode cX9_child 50 = .ok (.getfield 19, 3) := by decide +kernel
theorem dX9_child_53 : decode cX9_child 53 = .ok (.iload_n 1, 1) := by decide +kernel
theorem dX9_child_54 : decode cX9_child 54 = .ok (.iload_n 2, 1) := by decide +kernel
theorem dX9_child_55 : decode cX9_child 55 = .ok (.invokestatic 173, 3) := by decide +kernel
theorem dX9_child_58 : decode cX9_child 58 = .ok (.iload_n 3, 1) := by decide +kernel
theorem dX9_child_59 : decode cX9_child 59 = .ok (.iload 4, 2) := by decide +kernel
theorem dX9_child_61 : decode cX9_child 61 = .ok (.invokevirtual 199, 3) := by decide +kernel
theorem dX9_child_64 : decode cX9_child 64 = .ok (.istore 6, 2) := by decide +kernel
theorem dX9_child_66 : decode cX9_child 66 = .ok (.iload 5, 2) := by decide +kernel
theorem dX9_child_68 : decode cX9_child 68 = .ok (.iconst (-1), 1) := by decide +kernel
theorem dX9_child_69 : decode cX9_child 69 = .ok (.if_icmp .ne 6, 3) := by decide +kernel
theorem dX9_child_72 : decode cX9_child 72 = .ok (.iload 6, 2) := by decide +kernel
theorem dX9_child_74 : decode cX9_child 74 = .ok (.ireturn, 1) := by decide +kernel
theorem dX9_child_75 : decode cX9_child 75 = .ok (.iload 5, 2) := by decide +kernel
theorem dX9_child_77 : decode cX9_child 77 = .ok (.iload 6, 2) := by decide +kernel
theorem dX9_child_79 : decode cX9_child 79 = .ok (.if_icmp .ge 21, 3) := by decide +kernel
theorem dX9_child_82 : decode cX9_child 82 = .ok (.aload_n 0, 1) := by decide +kernel
theorem dX9_child_83 : decode cX9_child 83 = .ok (.getfield 33, 3) := by decide +kernel
theorem dX9_child_86 : decode cX9_child 86 = .ok (.iload_n 1, 1) := by decide +kernel
theorem dX9_child_87 : decode cX9_child 87 = .ok (.iload_n 2, 1) := by decide +kernel
theorem dX9_child_88 : decode cX9_child 88 = .ok (.invokestatic 173, 3) := by decide +kernel
theorem dX9_child_91 : decode cX9_child 91 = .ok (.iload_n 3, 1) := by decide +kernel
theorem dX9_child_92 : decode cX9_child 92 = .ok (.iload 5, 2) := by decide +kernel
theorem dX9_child_94 : decode cX9_child 94 = .ok (.invokevirtual 203, 3) := by decide +kernel
theorem dX9_child_97 : decode cX9_child 97 = .ok (.goto 5, 3) := by decide +kernel
theorem dX9_child_100 : decode cX9_child 100 = .ok (.bipush (-9), 2) := by decide +kernel
theorem dX9_child_102 : decode cX9_child 102 = .ok (.ireturn, 1) := by decide +kernel
theorem dX9_paint_0 : decode cX9_paint 0 = .ok (.iload_n 1, 1) := by decide +kernel
theorem dX9_paint_1 : decode cX9_paint 1 = .ok (.ifCond .lt 8, 3) := by decide +kernel
theorem dX9_paint_4 : decode cX9_paint 4 = .ok (.iload_n 1, 1) := by decide +kernel
theorem dX9_paint_5 : decode cX9_paint 5 = .ok (.iconst 1, 1) := by decide +kernel
theorem dX9_paint_6 : decode cX9_paint 6 = .ok (.if_icmp .le 5, 3) := by decide +kernel
theorem dX9_paint_9 : decode cX9_paint 9 = .ok (.iconst (-1), 1) := by decide +kernel
theorem dX9_paint_10 : decode cX9_paint 10 = .ok (.ireturn, 1) := by decide +kernel
theorem dX9_paint_11 : decode cX9_paint 11 = .ok (.aload_n 0, 1) := by decide +kernel
theorem dX9_paint_12 : decode cX9_paint 12 = .ok (.getfield 19, 3) := by decide +kernel
theorem dX9_paint_15 : decode cX9_paint 15 = .ok (.invokestatic 207, 3) := by decide +kernel
theorem dX9_paint_18 : decode cX9_paint 18 = .ok (.istore_n 2, 1) := by decide +kernel
theorem dX9_paint_19 : decode cX9_paint 19 = .ok (.iload_n 1, 1) := by decide +kernel
theorem dX9_paint_20 : decode cX9_paint 20 = .ok (.ifCond .ne 7, 3) := by decide +kernel
theorem dX9_paint_23 : decode cX9_paint 23 = .ok (.iload_n 2, 1) := by decide +kernel
theorem dX9_paint_24 : decode cX9_paint 24 = .ok (.goto 18, 3) := by decide +kernel
theorem dX9_paint_27 : decode cX9_paint 27 = .ok (.aload_n 0, 1) := by decide +kernel
theorem dX9_paint_28 : decode cX9_paint 28 = .ok (.getfield 19, 3) := by decide +kernel
theorem dX9_paint_31 : decode cX9_paint 31 = .ok (.iload_n 2, 1) := by decide +kernel
theorem dX9_paint_32 : decode cX9_paint 32 = .ok (.bipush 8, 2) := by decide +kernel
theorem dX9_paint_34 : decode cX9_paint 34 = .ok (.idiv, 1) := by decide +kernel
theorem dX9_paint_35 : decode cX9_paint 35 = .ok (.iload_n 2, 1) := by decide +kernel
theorem dX9_paint_36 : decode cX9_paint 36 = .ok (.bipush 8, 2) := by decide +kernel
theorem dX9_paint_38 : decode cX9_paint 38 = .ok (.irem, 1) := by decide +kernel
theorem dX9_paint_39 : decode cX9_paint 39 = .ok (.invokestatic 210, 3) := by decide +kernel
theorem dX9_paint_42 : decode cX9_paint 42 = .ok (.ireturn, 1) := by decide +kernel
theorem dX9_hail_0 : decode cX9_hail 0 = .ok (.iload_n 1, 1) := by decide +kernel
theorem dX9_hail_1 : decode cX9_hail 1 = .ok (.iload_n 2, 1) := by decide +kernel
theorem dX9_hail_2 : decode cX9_hail 2 = .ok (.invokestatic 166, 3) := by decide +kernel
theorem dX9_hail_5 : decode cX9_hail 5 = .ok (.ifCond .eq 33, 3) := by decide +kernel
theorem dX9_hail_8 : decode cX9_hail 8 = .ok (.iload_n 3, 1) := by decide +kernel
theorem dX9_hail_9 : decode cX9_hail 9 = .ok (.invokestatic 170, 3) := by decide +kernel
theorem dX9_hail_12 : decode cX9_hail 12 = .ok (.ifCond .eq 26, 3) := by decide +kernel
theorem dX9_hail_15 : decode cX9_hail 15 = .ok (.iload 4, 2) := by decide +kernel
theorem dX9_hail_17 : decode cX9_hail 17 = .ok (.ifCond .lt 21, 3) := by decide +kernel
theorem dX9_hail_20 : decode cX9_hail 20 = .ok (.iload 4, 2) := by decide +kernel
theorem dX9_hail_22 : decode cX9_hail 22 = .ok (.bipush 10, 2) := by decide +kernel
theorem dX9_hail_24 : decode cX9_hail 24 = .ok (.if_icmp .gt 14, 3) := by decide +kernel
theorem dX9_hail_27 : decode cX9_hail 27 = .ok (.iload 5, 2) := by decide +kernel
theorem dX9_hail_29 : decode cX9_hail 29 = .ok (.ifCond .lt 9, 3) := by decide +kernel
theorem dX9_hail_32 : decode cX9_hail 32 = .ok (.iload 5, 2) := by decide +kernel
theorem dX9_hail_34 : decode cX9_hail 34 = .ok (.iconst 1, 1) := by decide +kernel
theorem dX9_hail_35 : decode cX9_hail 35 = .ok (.if_icmp .le 5, 3) := by decide +kernel
theorem dX9_hail_38 : decode cX9_hail 38 = .ok (.iconst (-1), 1) := by decide +kernel
theorem dX9_hail_39 : decode cX9_hail 39 = .ok (.ireturn, 1) := by decide +kernel
theorem dX9_hail_40 : decode cX9_hail 40 = .ok (.aload_n 0, 1) := by decide +kernel
theorem dX9_hail_41 : decode cX9_hail 41 = .ok (.iload_n 1, 1) := by decide +kernel
theorem dX9_hail_42 : decode cX9_hail 42 = .ok (.iload_n 2, 1) := by decide +kernel
theorem dX9_hail_43 : decode cX9_hail 43 = .ok (.invokestatic 173, 3) := by decide +kernel
theorem dX9_hail_46 : decode cX9_hail 46 = .ok (.iload_n 3, 1) := by decide +kernel
theorem dX9_hail_47 : decode cX9_hail 47 = .ok (.iload 4, 2) := by decide +kernel
theorem dX9_hail_49 : decode cX9_hail 49 = .ok (.invokevirtual 214, 3) := by decide +kernel
theorem dX9_hail_52 : decode cX9_hail 52 = .ok (.istore 6, 2) := by decide +kernel
theorem dX9_hail_54 : decode cX9_hail 54 = .ok (.bipush 100, 2) := by decide +kernel
theorem dX9_hail_56 : decode cX9_hail 56 = .ok (.iload 6, 2) := by decide +kernel
theorem dX9_hail_58 : decode cX9_hail 58 = .ok (.invokestatic 217, 3) := by decide +kernel
theorem dX9_hail_61 : decode cX9_hail 61 = .ok (.istore 7, 2) := by decide +kernel
theorem dX9_hail_63 : decode cX9_hail 63 = .ok (.iload 5, 2) := by decide +kernel
theorem dX9_hail_65 : decode cX9_hail 65 = .ok (.ifCond .ne 8, 3) := by decide +kernel
theorem dX9_hail_68 : decode cX9_hail 68 = .ok (.iload 6, 2) := by decide +kernel
theorem dX9_hail_70 : decode cX9_hail 70 = .ok (.goto 5, 3) := by decide +kernel
theorem dX9_hail_73 : decode cX9_hail 73 = .ok (.bipush 100, 2) := by decide +kernel
theorem dX9_hail_75 : decode cX9_hail 75 = .ok (.iload 7, 2) := by decide +kernel
theorem dX9_hail_77 : decode cX9_hail 77 = .ok (.idiv, 1) := by decide +kernel
theorem dX9_hail_78 : decode cX9_hail 78 = .ok (.ireturn, 1) := by decide +kernel
theorem dX9_saw_0 : decode cX9_saw 0 = .ok (.iload_n 1, 1) := by decide +kernel
theorem dX9_saw_1 : decode cX9_saw 1 = .ok (.iload_n 2, 1) := by decide +kernel
theorem dX9_saw_2 : decode cX9_saw 2 = .ok (.invokestatic 166, 3) := by decide +kernel
theorem dX9_saw_5 : decode cX9_saw 5 = .ok (.ifCond .eq 18, 3) := by decide +kernel
theorem dX9_saw_8 : decode cX9_saw 8 = .ok (.iload_n 3, 1) := by decide +kernel
theorem dX9_saw_9 : decode cX9_saw 9 = .ok (.invokestatic 170, 3) := by decide +kernel
theorem dX9_saw_12 : decode cX9_saw 12 = .ok (.ifCond .eq 11, 3) := by decide +kernel
theorem dX9_saw_15 : decode cX9_saw 15 = .ok (.iload 4, 2) := by decide +kernel
theorem dX9_saw_17 : decode cX9_saw 17 = .ok (.invokestatic 179, 3) := by decide +kernel
theorem dX9_saw_20 : decode cX9_saw 20 = .ok (.ifCond .ne 5, 3) := by decide +kernel
theorem dX9_saw_23 : decode cX9_saw 23 = .ok (.iconst (-1), 1) := by decide +kernel
theorem dX9_saw_24 : decode cX9_saw 24 = .ok (.ireturn, 1) := by decide +kernel
theorem dX9_saw_25 : decode cX9_saw 25 = .ok (.aload_n 0, 1) := by decide +kernel
theorem dX9_saw_26 : decode cX9_saw 26 = .ok (.getfield 40, 3) := by decide +kernel
theorem dX9_saw_29 : decode cX9_saw 29 = .ok (.iload_n 1, 1) := by decide +kernel
theorem dX9_saw_30 : decode cX9_saw 30 = .ok (.iload_n 2, 1) := by decide +kernel
theorem dX9_saw_31 : decode cX9_saw 31 = .ok (.invokestatic 173, 3) := by decide +kernel
theorem dX9_saw_34 : decode cX9_saw 34 = .ok (.bipush 8, 2) := by decide +kernel
theorem dX9_saw_36 : decode cX9_saw 36 = .ok (.imul, 1) := by decide +kernel
theorem dX9_saw_37 : decode cX9_saw 37 = .ok (.iload_n 3, 1) := by decide +kernel
theorem dX9_saw_38 : decode cX9_saw 38 = .ok (.iadd, 1) := by decide +kernel
theorem dX9_saw_39 : decode cX9_saw 39 = .ok (.iload 4, 2) := by decide +kernel
theorem dX9_saw_41 : decode cX9_saw 41 = .ok (.invokevirtual 220, 3) := by decide +kernel
theorem dX9_saw_44 : decode cX9_saw 44 = .ok (.ifCond .eq 13, 3) := by decide +kernel
theorem dX9_saw_47 : decode cX9_saw 47 = .ok (.aload_n 0, 1) := by decide +kernel
theorem dX9_saw_48 : decode cX9_saw 48 = .ok (.getfield 40, 3) := by decide +kernel
theorem dX9_saw_51 : decode cX9_saw 51 = .ok (.getfield 84, 3) := by decide +kernel
theorem dX9_saw_54 : decode cX9_saw 54 = .ok (.goto 5, 3) := by decide +kernel
theorem dX9_saw_57 : decode cX9_saw 57 = .ok (.bipush (-3), 2) := by decide +kernel
theorem dX9_saw_59 : decode cX9_saw 59 = .ok (.ireturn, 1) := by decide +kernel
theorem dX9_forget_0 : decode cX9_forget 0 = .ok (.aload_n 0, 1) := by decide +kernel
theorem dX9_forget_1 : decode cX9_forget 1 = .ok (.getfield 40, 3) := by decide +kernel
theorem dX9_forget_4 : decode cX9_forget 4 = .ok (.getfield 84, 3) := by decide +kernel
theorem dX9_forget_7 : decode cX9_forget 7 = .ok (.istore_n 1, 1) := by decide +kernel
theorem dX9_forget_8 : decode cX9_forget 8 = .ok (.aload_n 0, 1) := by decide +kernel
theorem dX9_forget_9 : decode cX9_forget 9 = .ok (.getfield 40, 3) := by decide +kernel
theorem dX9_forget_12 : decode cX9_forget 12 = .ok (.iconst 0, 1) := by decide +kernel
theorem dX9_forget_13 : decode cX9_forget 13 = .ok (.putfield 84, 3) := by decide +kernel
theorem dX9_forget_16 : decode cX9_forget 16 = .ok (.iload_n 1, 1) := by decide +kernel
theorem dX9_forget_17 : decode cX9_forget 17 = .ok (.ireturn, 1) := by decide +kernel
theorem dX9_suspects_0 : decode cX9_suspects 0 = .ok (.aload_n 0, 1) := by decide +kernel
theorem dX9_suspects_1 : decode cX9_suspects 1 = .ok (.getfield 40, 3) := by decide +kernel
theorem dX9_suspects_4 : decode cX9_suspects 4 = .ok (.aload_n 0, 1) := by decide +kernel
theorem dX9_suspects_5 : decode cX9_suspects 5 = .ok (.getfield 19, 3) := by decide +kernel
theorem dX9_suspects_8 : decode cX9_suspects 8 = .ok (.invokevirtual 222, 3) := by decide +kernel
theorem dX9_suspects_11 : decode cX9_suspects 11 = .ok (.ireturn, 1) := by decide +kernel
theorem dX9_glasses_0 : decode cX9_glasses 0 = .ok (.aload_n 0, 1) := by decide +kernel
theorem dX9_glasses_1 : decode cX9_glasses 1 = .ok (.getfield 19, 3) := by decide +kernel
theorem dX9_glasses_4 : decode cX9_glasses 4 = .ok (.iload_n 1, 1) := by decide +kernel
theorem dX9_glasses_5 : decode cX9_glasses 5 = .ok (.iload_n 2, 1) := by decide +kernel
theorem dX9_glasses_6 : decode cX9_glasses 6 = .ok (.invokevirtual 87, 3) := by decide +kernel
theorem dX9_glasses_9 : decode cX9_glasses 9 = .ok (.istore_n 3, 1) := by decide +kernel
theorem dX9_glasses_10 : decode cX9_glasses 10 = .ok (.iload_n 3, 1) := by decide +kernel
theorem dX9_glasses_11 : decode cX9_glasses 11 = .ok (.iconst (-1), 1) := by decide +kernel
theorem dX9_glasses_12 : decode cX9_glasses 12 = .ok (.if_icmp .ne 7, 3) := by decide +kernel
theorem dX9_glasses_15 : decode cX9_glasses 15 = .ok (.iconst (-1), 1) := by decide +kernel
theorem dX9_glasses_16 : decode cX9_glasses 16 = .ok (.goto 15, 3) := by decide +kernel
theorem dX9_glasses_19 : decode cX9_glasses 19 = .ok (.aload_n 0, 1) := by decide +kernel
theorem dX9_glasses_20 : decode cX9_glasses 20 = .ok (.getfield 40, 3) := by decide +kernel
theorem dX9_glasses_23 : decode cX9_glasses 23 = .ok (.aload_n 0, 1) := by decide +kernel
theorem dX9_glasses_24 : decode cX9_glasses 24 = .ok (.getfield 19, 3) := by decide +kernel
theorem dX9_glasses_27 : decode cX9_glasses 27 = .ok (.iload_n 3, 1) := by decide +kernel
theorem dX9_glasses_28 : decode cX9_glasses 28 = .ok (.invokevirtual 225, 3) := by decide +kernel
theorem dX9_glasses_31 : decode cX9_glasses 31 = .ok (.ireturn, 1) := by decide +kernel
theorem dX9_look_0 : decode cX9_look 0 = .ok (.aload_n 0, 1) := by decide +kernel
theorem dX9_look_1 : decode cX9_look 1 = .ok (.getfield 40, 3) := by decide +kernel
theorem dX9_look_4 : decode cX9_look 4 = .ok (.aload_n 0, 1) := by decide +kernel
theorem dX9_look_5 : decode cX9_look 5 = .ok (.getfield 19, 3) := by decide +kernel
theorem dX9_look_8 : decode cX9_look 8 = .ok (.aload_n 0, 1) := by decide +kernel
theorem dX9_look_9 : decode cX9_look 9 = .ok (.getfield 40, 3) := by decide +kernel
theorem dX9_look_12 : decode cX9_look 12 = .ok (.aload_n 0, 1) := by decide +kernel
theorem dX9_look_13 : decode cX9_look 13 = .ok (.getfield 19, 3) := by decide +kernel
theorem dX9_look_16 : decode cX9_look 16 = .ok (.invokevirtual 222, 3) := by decide +kernel
theorem dX9_look_19 : decode cX9_look 19 = .ok (.invokevirtual 229, 3) := by decide +kernel
theorem dX9_look_22 : decode cX9_look 22 = .ok (.ireturn, 1) := by decide +kernel
theorem dX9_mark_0 : decode cX9_mark 0 = .ok (.aload_n 0, 1) := by decide +kernel
theorem dX9_mark_1 : decode cX9_mark 1 = .ok (.getfield 19, 3) := by decide +kernel
theorem dX9_mark_4 : decode cX9_mark 4 = .ok (.iload_n 2, 1) := by decide +kernel
theorem dX9_mark_5 : decode cX9_mark 5 = .ok (.iload_n 3, 1) := by decide +kernel
theorem dX9_mark_6 : decode cX9_mark 6 = .ok (.invokevirtual 87, 3) := by decide +kernel
theorem dX9_mark_9 : decode cX9_mark 9 = .ok (.istore 4, 2) := by decide +kernel
theorem dX9_mark_11 : decode cX9_mark 11 = .ok (.iload_n 1, 1) := by decide +kernel
theorem dX9_mark_12 : decode cX9_mark 12 = .ok (.ifCond .lt 14, 3) := by decide +kernel
theorem dX9_mark_15 : decode cX9_mark 15 = .ok (.iload_n 1, 1) := by decide +kernel
theorem dX9_mark_16 : decode cX9_mark 16 = .ok (.iconst 5, 1) := by decide +kernel
theorem dX9_mark_17 : decode cX9_mark 17 = .ok (.if_icmp .gt 9, 3) := by decide +kernel
theorem dX9_mark_20 : decode cX9_mark 20 = .ok (.iload 4, 2) := by decide +kernel
theorem dX9_mark_22 : decode cX9_mark 22 = .ok (.iconst (-1), 1) := by decide +kernel
theorem dX9_mark_23 : decode cX9_mark 23 = .ok (.if_icmp .ne 6, 3) := by decide +kernel
theorem dX9_mark_26 : decode cX9_mark 26 = .ok (.ldc 232, 2) := by decide +kernel
theorem dX9_mark_28 : decode cX9_mark 28 = .ok (.ireturn, 1) := by decide +kernel
theorem dX9_mark_29 : decode cX9_mark 29 = .ok (.iload_n 1, 1) := by decide +kernel
theorem dX9_mark_30 : decode cX9_mark 30 = .ok (.tableswitch 69 0 4 #[34, 41, 48, 55, 62], 34) := by decide +kernel
theorem dX9_mark_64 : decode cX9_mark 64 = .ok (.aload_n 0, 1) := by decide +kernel
theorem dX9_mark_65 : decode cX9_mark 65 = .ok (.iload 4, 2) := by decide +kernel
theorem dX9_mark_67 : decode cX9_mark 67 = .ok (.invokevirtual 233, 3) := by decide +kernel
theorem dX9_mark_70 : decode cX9_mark 70 = .ok (.ireturn, 1) := by decide +kernel
theorem dX9_mark_71 : decode cX9_mark 71 = .ok (.aload_n 0, 1) := by decide +kernel
theorem dX9_mark_72 : decode cX9_mark 72 = .ok (.iload 4, 2) := by decide +kernel
theorem dX9_mark_74 : decode cX9_mark 74 = .ok (.invokevirtual 236, 3) := by decide +kernel
theorem dX9_mark_77 : decode cX9_mark 77 = .ok (.ireturn, 1) := by decide +kernel
theorem dX9_mark_78 : decode cX9_mark 78 = .ok (.aload_n 0, 1) := by decide +kernel
theorem dX9_mark_79 : decode cX9_mark 79 = .ok (.iload 4, 2) := by decide +kernel
theorem dX9_mark_81 : decode cX9_mark 81 = .ok (.invokevirtual 239, 3) := by decide +kernel
theorem dX9_mark_84 : decode cX9_mark 84 = .ok (.ireturn, 1) := by decide +kernel
theorem dX9_mark_85 : decode cX9_mark 85 = .ok (.aload_n 0, 1) := by decide +kernel
theorem dX9_mark_86 : decode cX9_mark 86 = .ok (.iload 4, 2) := by decide +kernel
theorem dX9_mark_88 : decode cX9_mark 88 = .ok (.invokevirtual 242, 3) := by decide +kernel
theorem dX9_mark_91 : decode cX9_mark 91 = .ok (.ireturn, 1) := by decide +kernel
theorem dX9_mark_92 : decode cX9_mark 92 = .ok (.aload_n 0, 1) := by decide +kernel
theorem dX9_mark_93 : decode cX9_mark 93 = .ok (.iload 4, 2) := by decide +kernel
theorem dX9_mark_95 : decode cX9_mark 95 = .ok (.invokevirtual 245, 3) := by decide +kernel
theorem dX9_mark_98 : decode cX9_mark 98 = .ok (.ireturn, 1) := by decide +kernel
theorem dX9_mark_99 : decode cX9_mark 99 = .ok (.aload_n 0, 1) := by decide +kernel
theorem dX9_mark_100 : decode cX9_mark 100 = .ok (.iload 4, 2) := by decide +kernel
theorem dX9_mark_102 : decode cX9_mark 102 = .ok (.invokevirtual 248, 3) := by decide +kernel
theorem dX9_mark_105 : decode cX9_mark 105 = .ok (.ireturn, 1) := by decide +kernel
theorem dX9_keep_0 : decode cX9_keep 0 = .ok (.iload_n 1, 1) := by decide +kernel
theorem dX9_keep_1 : decode cX9_keep 1 = .ok (.ifCond .lt 8, 3) := by decide +kernel
theorem dX9_keep_4 : decode cX9_keep 4 = .ok (.iload_n 1, 1) := by decide +kernel
theorem dX9_keep_5 : decode cX9_keep 5 = .ok (.iconst 2, 1) := by decide +kernel
theorem dX9_keep_6 : decode cX9_keep 6 = .ok (.if_icmp .lt 5, 3) := by decide +kernel
theorem dX9_keep_9 : decode cX9_keep 9 = .ok (.iconst (-1), 1) := by decide +kernel
theorem dX9_keep_10 : decode cX9_keep 10 = .ok (.ireturn, 1) := by decide +kernel
theorem dX9_keep_11 : decode cX9_keep 11 = .ok (.aload_n 0, 1) := by decide +kernel
theorem dX9_keep_12 : decode cX9_keep 12 = .ok (.getfield 46, 3) := by decide +kernel
theorem dX9_keep_15 : decode cX9_keep 15 = .ok (.iload_n 1, 1) := by decide +kernel
theorem dX9_keep_16 : decode cX9_keep 16 = .ok (.aaload, 1) := by decide +kernel
theorem dX9_keep_17 : decode cX9_keep 17 = .ok (.aload_n 0, 1) := by decide +kernel
theorem dX9_keep_18 : decode cX9_keep 18 = .ok (.getfield 19, 3) := by decide +kernel
theorem dX9_keep_21 : decode cX9_keep 21 = .ok (.getfield 58, 3) := by decide +kernel
theorem dX9_keep_24 : decode cX9_keep 24 = .ok (.invokevirtual 251, 3) := by decide +kernel
theorem dX9_keep_27 : decode cX9_keep 27 = .ok (.aload_n 0, 1) := by decide +kernel
theorem dX9_keep_28 : decode cX9_keep 28 = .ok (.dup, 1) := by decide +kernel
theorem dX9_keep_29 : decode cX9_keep 29 = .ok (.getfield 81, 3) := by decide +kernel
theorem dX9_keep_32 : decode cX9_keep 32 = .ok (.iconst 1, 1) := by decide +kernel
theorem dX9_keep_33 : decode cX9_keep 33 = .ok (.iload_n 1, 1) := by decide +kernel
theorem dX9_keep_34 : decode cX9_keep 34 = .ok (.ishl, 1) := by decide +kernel
theorem dX9_keep_35 : decode cX9_keep 35 = .ok (.ior, 1) := by decide +kernel
theorem dX9_keep_36 : decode cX9_keep 36 = .ok (.putfield 81, 3) := by decide +kernel
theorem dX9_keep_39 : decode cX9_keep 39 = .ok (.aload_n 0, 1) := by decide +kernel
theorem dX9_keep_40 : decode cX9_keep 40 = .ok (.getfield 19, 3) := by decide +kernel
theorem dX9_keep_43 : decode cX9_keep 43 = .ok (.getfield 58, 3) := by decide +kernel
theorem dX9_keep_46 : decode cX9_keep 46 = .ok (.getfield 98, 3) := by decide +kernel
theorem dX9_keep_49 : decode cX9_keep 49 = .ok (.getfield 132, 3) := by decide +kernel
theorem dX9_keep_52 : decode cX9_keep 52 = .ok (.invokestatic 127, 3) := by decide +kernel
theorem dX9_keep_55 : decode cX9_keep 55 = .ok (.ireturn, 1) := by decide +kernel
theorem dX9_back_0 : decode cX9_back 0 = .ok (.iload_n 1, 1) := by decide +kernel
theorem dX9_back_1 : decode cX9_back 1 = .ok (.ifCond .lt 8, 3) := by decide +kernel
theorem dX9_back_4 : decode cX9_back 4 = .ok (.iload_n 1, 1) := by decide +kernel
theorem dX9_back_5 : decode cX9_back 5 = .ok (.iconst 2, 1) := by decide +kernel
theorem dX9_back_6 : decode cX9_back 6 = .ok (.if_icmp .lt 5, 3) := by decide +kernel
theorem dX9_back_9 : decode cX9_back 9 = .ok (.iconst (-1), 1) := by decide +kernel
theorem dX9_back_10 : decode cX9_back 10 = .ok (.ireturn, 1) := by decide +kernel
theorem dX9_back_11 : decode cX9_back 11 = .ok (.aload_n 0, 1) := by decide +kernel
theorem dX9_back_12 : decode cX9_back 12 = .ok (.getfield 81, 3) := by decide +kernel
theorem dX9_back_15 : decode cX9_back 15 = .ok (.iload_n 1, 1) := by decide +kernel
theorem dX9_back_16 : decode cX9_back 16 = .ok (.ishr, 1) := by decide +kernel
theorem dX9_back_17 : decode cX9_back 17 = .ok (.iconst 1, 1) := by decide +kernel
theorem dX9_back_18 : decode cX9_back 18 = .ok (.iand, 1) := by decide +kernel
theorem dX9_back_19 : decode cX9_back 19 = .ok (.ifCond .ne 6, 3) := by decide +kernel
theorem dX9_back_22 : decode cX9_back 22 = .ok (.bipush (-2), 2) := by decide +kernel
theorem dX9_back_24 : decode cX9_back 24 = .ok (.ireturn, 1) := by decide +kernel
theorem dX9_back_25 : decode cX9_back 25 = .ok (.aload_n 0, 1) := by decide +kernel
theorem dX9_back_26 : decode cX9_back 26 = .ok (.getfield 19, 3) := by decide +kernel
theorem dX9_back_29 : decode cX9_back 29 = .ok (.getfield 58, 3) := by decide +kernel
theorem dX9_back_32 : decode cX9_back 32 = .ok (.aload_n 0, 1) := by decide +kernel
theorem dX9_back_33 : decode cX9_back 33 = .ok (.getfield 46, 3) := by decide +kernel
theorem dX9_back_36 : decode cX9_back 36 = .ok (.iload_n 1, 1) := by decide +kernel
theorem dX9_back_37 : decode cX9_back 37 = .ok (.aaload, 1) := by decide +kernel
theorem dX9_back_38 : decode cX9_back 38 = .ok (.invokevirtual 251, 3) := by decide +kernel
theorem dX9_back_41 : decode cX9_back 41 = .ok (.aload_n 0, 1) := by decide +kernel
theorem dX9_back_42 : decode cX9_back 42 = .ok (.getfield 19, 3) := by decide +kernel
theorem dX9_back_45 : decode cX9_back 45 = .ok (.getfield 58, 3) := by decide +kernel
theorem dX9_back_48 : decode cX9_back 48 = .ok (.getfield 98, 3) := by decide +kernel
theorem dX9_back_51 : decode cX9_back 51 = .ok (.getfield 132, 3) := by decide +kernel
theorem dX9_back_54 : decode cX9_back 54 = .ok (.invokestatic 127, 3) := by decide +kernel
theorem dX9_back_57 : decode cX9_back 57 = .ok (.ireturn, 1) := by decide +kernel
theorem dX9_count_0 : decode cX9_count 0 = .ok (.iload_n 1, 1) := by decide +kernel
theorem dX9_count_1 : decode cX9_count 1 = .ok (.tableswitch 99 0 5 #[39, 50, 61, 72, 80, 91], 39) := by decide +kernel
theorem dX9_count_40 : decode cX9_count 40 = .ok (.aload_n 0, 1) := by decide +kernel
theorem dX9_count_41 : decode cX9_count 41 = .ok (.getfield 19, 3) := by decide +kernel
theorem dX9_count_44 : decode cX9_count 44 = .ok (.getfield 62, 3) := by decide +kernel
theorem dX9_count_47 : decode cX9_count 47 = .ok (.getfield 255, 3) := by decide +kernel
theorem dX9_count_50 : decode cX9_count 50 = .ok (.ireturn, 1) := by decide +kernel
theorem dX9_count_51 : decode cX9_count 51 = .ok (.aload_n 0, 1) := by decide +kernel
theorem dX9_count_52 : decode cX9_count 52 = .ok (.getfield 19, 3) := by decide +kernel
theorem dX9_count_55 : decode cX9_count 55 = .ok (.getfield 62, 3) := by decide +kernel
theorem dX9_count_58 : decode cX9_count 58 = .ok (.getfield 258, 3) := by decide +kernel
theorem dX9_count_61 : decode cX9_count 61 = .ok (.ireturn, 1) := by decide +kernel
theorem dX9_count_62 : decode cX9_count 62 = .ok (.aload_n 0, 1) := by decide +kernel
theorem dX9_count_63 : decode cX9_count 63 = .ok (.getfield 19, 3) := by decide +kernel
theorem dX9_count_66 : decode cX9_count 66 = .ok (.getfield 62, 3) := by decide +kernel
theorem dX9_count_69 : decode cX9_count 69 = .ok (.getfield 261, 3) := by decide +kernel
theorem dX9_count_72 : decode cX9_count 72 = .ok (.ireturn, 1) := by decide +kernel
theorem dX9_count_73 : decode cX9_count 73 = .ok (.aload_n 0, 1) := by decide +kernel
theorem dX9_count_74 : decode cX9_count 74 = .ok (.getfield 40, 3) := by decide +kernel
theorem dX9_count_77 : decode cX9_count 77 = .ok (.getfield 84, 3) := by decide +kernel
theorem dX9_count_80 : decode cX9_count 80 = .ok (.ireturn, 1) := by decide +kernel
theorem dX9_count_81 : decode cX9_count 81 = .ok (.aload_n 0, 1) := by decide +kernel
theorem dX9_count_82 : decode cX9_count 82 = .ok (.getfield 19, 3) := by decide +kernel
theorem dX9_count_85 : decode cX9_count 85 = .ok (.getfield 58, 3) := by decide +kernel
theorem dX9_count_88 : decode cX9_count 88 = .ok (.getfield 145, 3) := by decide +kernel
theorem dX9_count_91 : decode cX9_count 91 = .ok (.ireturn, 1) := by decide +kernel
theorem dX9_count_92 : decode cX9_count 92 = .ok (.aload_n 0, 1) := by decide +kernel
theorem dX9_count_93 : decode cX9_count 93 = .ok (.getfield 12, 3) := by decide +kernel
theorem dX9_count_96 : decode cX9_count 96 = .ok (.getfield 73, 3) := by decide +kernel
theorem dX9_count_99 : decode cX9_count 99 = .ok (.ireturn, 1) := by decide +kernel
theorem dX9_count_100 : decode cX9_count 100 = .ok (.iconst (-1), 1) := by decide +kernel
theorem dX9_count_101 : decode cX9_count 101 = .ok (.ireturn, 1) := by decide +kernel
theorem dX9_trace_0 : decode cX9_trace 0 = .ok (.aload_n 0, 1) := by decide +kernel
theorem dX9_trace_1 : decode cX9_trace 1 = .ok (.getfield 262, 3) := by decide +kernel
theorem dX9_trace_4 : decode cX9_trace 4 = .ok (.lreturn, 1) := by decide +kernel
theorem dX9_isSheet_0 : decode cX9_isSheet 0 = .ok (.iload_n 1, 1) := by decide +kernel
theorem dX9_isSheet_1 : decode cX9_isSheet 1 = .ok (.ifCond .lt 21, 3) := by decide +kernel
theorem dX9_isSheet_4 : decode cX9_isSheet 4 = .ok (.iload_n 1, 1) := by decide +kernel
theorem dX9_isSheet_5 : decode cX9_isSheet 5 = .ok (.aload_n 0, 1) := by decide +kernel
theorem dX9_isSheet_6 : decode cX9_isSheet 6 = .ok (.getfield 19, 3) := by decide +kernel
theorem dX9_isSheet_9 : decode cX9_isSheet 9 = .ok (.getfield 62, 3) := by decide +kernel
theorem dX9_isSheet_12 : decode cX9_isSheet 12 = .ok (.getfield 261, 3) := by decide +kernel
theorem dX9_isSheet_15 : decode cX9_isSheet 15 = .ok (.if_icmp .ge 7, 3) := by decide +kernel
theorem dX9_isSheet_18 : decode cX9_isSheet 18 = .ok (.iconst 1, 1) := by decide +kernel
theorem dX9_isSheet_19 : decode cX9_isSheet 19 = .ok (.goto 4, 3) := by decide +kernel
theorem dX9_isSheet_22 : decode cX9_isSheet 22 = .ok (.iconst 0, 1) := by decide +kernel
theorem dX9_isSheet_23 : decode cX9_isSheet 23 = .ok (.ireturn, 1) := by decide +kernel
theorem dX9_isTile_0 : decode cX9_isTile 0 = .ok (.iload_n 0, 1) := by decide +kernel
theorem dX9_isTile_1 : decode cX9_isTile 1 = .ok (.ifCond .lt 23, 3) := by decide +kernel
theorem dX9_isTile_4 : decode cX9_isTile 4 = .ok (.iload_n 0, 1) := by decide +kernel
theorem dX9_isTile_5 : decode cX9_isTile 5 = .ok (.bipush 12, 2) := by decide +kernel
theorem dX9_isTile_7 : decode cX9_isTile 7 = .ok (.if_icmp .ge 17, 3) := by decide +kernel
theorem dX9_isTile_10 : decode cX9_isTile 10 = .ok (.iload_n 1, 1) := by decide +kernel
theorem dX9_isTile_11 : decode cX9_isTile 11 = .ok (.ifCond .lt 13, 3) := by decide +kernel
theorem dX9_isTile_14 : decode cX9_isTile 14 = .ok (.iload_n 1, 1) := by decide +kernel
theorem dX9_isTile_15 : decode cX9_isTile 15 = .ok (.bipush 7, 2) := by decide +kernel
theorem dX9_isTile_17 : decode cX9_isTile 17 = .ok (.if_icmp .ge 7, 3) := by decide +kernel
theorem dX9_isTile_20 : decode cX9_isTile 20 = .ok (.iconst 1, 1) := by decide +kernel
theorem dX9_isTile_21 : decode cX9_isTile 21 = .ok (.goto 4, 3) := by decide +kernel
theorem dX9_isTile_24 : decode cX9_isTile 24 = .ok (.iconst 0, 1) := by decide +kernel
theorem dX9_isTile_25 : decode cX9_isTile 25 = .ok (.ireturn, 1) := by decide +kernel
theorem dX9_isHour_0 : decode cX9_isHour 0 = .ok (.iload_n 0, 1) := by decide +kernel
theorem dX9_isHour_1 : decode cX9_isHour 1 = .ok (.ifCond .lt 13, 3) := by decide +kernel
theorem dX9_isHour_4 : decode cX9_isHour 4 = .ok (.iload_n 0, 1) := by decide +kernel
theorem dX9_isHour_5 : decode cX9_isHour 5 = .ok (.bipush 8, 2) := by decide +kernel
theorem dX9_isHour_7 : decode cX9_isHour 7 = .ok (.if_icmp .ge 7, 3) := by decide +kernel
theorem dX9_isHour_10 : decode cX9_isHour 10 = .ok (.iconst 1, 1) := by decide +kernel
theorem dX9_isHour_11 : decode cX9_isHour 11 = .ok (.goto 4, 3) := by decide +kernel
theorem dX9_isHour_14 : decode cX9_isHour 14 = .ok (.iconst 0, 1) := by decide +kernel
theorem dX9_isHour_15 : decode cX9_isHour 15 = .ok (.ireturn, 1) := by decide +kernel
theorem dX9_isColour_0 : decode cX9_isColour 0 = .ok (.iload_n 0, 1) := by decide +kernel
theorem dX9_isColour_1 : decode cX9_isColour 1 = .ok (.ifCond .lt 13, 3) := by decide +kernel
theorem dX9_isColour_4 : decode cX9_isColour 4 = .ok (.iload_n 0, 1) := by decide +kernel
theorem dX9_isColour_5 : decode cX9_isColour 5 = .ok (.bipush 8, 2) := by decide +kernel
theorem dX9_isColour_7 : decode cX9_isColour 7 = .ok (.if_icmp .ge 7, 3) := by decide +kernel
theorem dX9_isColour_10 : decode cX9_isColour 10 = .ok (.iconst 1, 1) := by decide +kernel
theorem dX9_isColour_11 : decode cX9_isColour 11 = .ok (.goto 4, 3) := by decide +kernel
theorem dX9_isColour_14 : decode cX9_isColour 14 = .ok (.iconst 0, 1) := by decide +kernel
theorem dX9_isColour_15 : decode cX9_isColour 15 = .ok (.ireturn, 1) := by decide +kernel
theorem dX9_numberOf_0 : decode cX9_numberOf 0 = .ok (.bipush 7, 2) := by decide +kernel
theorem dX9_numberOf_2 : decode cX9_numberOf 2 = .ok (.iload_n 0, 1) := by decide +kernel
theorem dX9_numberOf_3 : decode cX9_numberOf 3 = .ok (.imul, 1) := by decide +kernel
theorem dX9_numberOf_4 : decode cX9_numberOf 4 = .ok (.iload_n 1, 1) := by decide +kernel
theorem dX9_numberOf_5 : decode cX9_numberOf 5 = .ok (.iadd, 1) := by decide +kernel
theorem dX9_numberOf_6 : decode cX9_numberOf 6 = .ok (.ireturn, 1) := by decide +kernel
theorem dX9_asPane_0 : decode cX9_asPane 0 = .ok (.aload_n 0, 1) := by decide +kernel
theorem dX9_asPane_1 : decode cX9_asPane 1 = .ok (.dup, 1) := by decide +kernel
theorem dX9_asPane_2 : decode cX9_asPane 2 = .ok (.getfield 262, 3) := by decide +kernel
theorem dX9_asPane_5 : decode cX9_asPane 5 = .ok (.lconst 1, 1) := by decide +kernel
theorem dX9_asPane_6 : decode cX9_asPane 6 = .ok (.ladd, 1) := by decide +kernel
theorem dX9_asPane_7 : decode cX9_asPane 7 = .ok (.putfield 262, 3) := by decide +kernel
theorem dX9_asPane_10 : decode cX9_asPane 10 = .ok (.aload_n 0, 1) := by decide +kernel
theorem dX9_asPane_11 : decode cX9_asPane 11 = .ok (.getfield 19, 3) := by decide +kernel
theorem dX9_asPane_14 : decode cX9_asPane 14 = .ok (.iload_n 1, 1) := by decide +kernel
theorem dX9_asPane_15 : decode cX9_asPane 15 = .ok (.invokevirtual 107, 3) := by decide +kernel
theorem dX9_asPane_18 : decode cX9_asPane 18 = .ok (.ireturn, 1) := by decide +kernel
theorem dX9_asSaint_0 : decode cX9_asSaint 0 = .ok (.aload_n 0, 1) := by decide +kernel
theorem dX9_asSaint_1 : decode cX9_asSaint 1 = .ok (.dup, 1) := by decide +kernel
theorem dX9_asSaint_2 : decode cX9_asSaint 2 = .ok (.getfield 262, 3) := by decide +kernel
theorem dX9_asSaint_5 : decode cX9_asSaint 5 = .ok (.ldc2_w 266, 3) := by decide +kernel
theorem dX9_asSaint_8 : decode cX9_asSaint 8 = .ok (.ladd, 1) := by decide +kernel
theorem dX9_asSaint_9 : decode cX9_asSaint 9 = .ok (.putfield 262, 3) := by decide +kernel
theorem dX9_asSaint_12 : decode cX9_asSaint 12 = .ok (.aload_n 0, 1) := by decide +kernel
theorem dX9_asSaint_13 : decode cX9_asSaint 13 = .ok (.iload_n 1, 1) := by decide +kernel
theorem dX9_asSaint_14 : decode cX9_asSaint 14 = .ok (.invokevirtual 233, 3) := by decide +kernel
theorem dX9_asSaint_17 : decode cX9_asSaint 17 = .ok (.aload_n 0, 1) := by decide +kernel
theorem dX9_asSaint_18 : decode cX9_asSaint 18 = .ok (.getfield 19, 3) := by decide +kernel
theorem dX9_asSaint_21 : decode cX9_asSaint 21 = .ok (.getfield 58, 3) := by decide +kernel
theorem dX9_asSaint_24 : decode cX9_asSaint 24 = .ok (.getfield 98, 3) := by decide +kernel
theorem dX9_asSaint_27 : decode cX9_asSaint 27 = .ok (.getfield 102, 3) := by decide +kernel
theorem dX9_asSaint_30 : decode cX9_asSaint 30 = .ok (.iload_n 1, 1) := by decide +kernel
theorem dX9_asSaint_31 : decode cX9_asSaint 31 = .ok (.iaload, 1) := by decide +kernel
theorem dX9_asSaint_32 : decode cX9_asSaint 32 = .ok (.invokestatic 127, 3) := by decide +kernel
theorem dX9_asSaint_35 : decode cX9_asSaint 35 = .ok (.iadd, 1) := by decide +kernel
theorem dX9_asSaint_36 : decode cX9_asSaint 36 = .ok (.ireturn, 1) := by decide +kernel
theorem dX9_asDevil_0 : decode cX9_asDevil 0 = .ok (.aload_n 0, 1) := by decide +kernel
theorem dX9_asDevil_1 : decode cX9_asDevil 1 = .ok (.dup, 1) := by decide +kernel
theorem dX9_asDevil_2 : decode cX9_asDevil 2 = .ok (.getfield 262, 3) := by decide +kernel
theorem dX9_asDevil_5 : decode cX9_asDevil 5 = .ok (.ldc2_w 268, 3) := by decide +kernel
theorem dX9_asDevil_8 : decode cX9_asDevil 8 = .ok (.ladd, 1) := by decide +kernel
theorem dX9_asDevil_9 : decode cX9_asDevil 9 = .ok (.putfield 262, 3) := by decide +kernel
theorem dX9_asDevil_12 : decode cX9_asDevil 12 = .ok (.aload_n 0, 1) := by decide +kernel
theorem dX9_asDevil_13 : decode cX9_asDevil 13 = .ok (.iload_n 1, 1) := by decide +kernel
theorem dX9_asDevil_14 : decode cX9_asDevil 14 = .ok (.invokevirtual 233, 3) := by decide +kernel
theorem dX9_asDevil_17 : decode cX9_asDevil 17 = .ok (.iload_n 1, 1) := by decide +kernel
theorem dX9_asDevil_18 : decode cX9_asDevil 18 = .ok (.iconst 4, 1) := by decide +kernel
theorem dX9_asDevil_19 : decode cX9_asDevil 19 = .ok (.irem, 1) := by decide +kernel
theorem dX9_asDevil_20 : decode cX9_asDevil 20 = .ok (.isub, 1) := by decide +kernel
theorem dX9_asDevil_21 : decode cX9_asDevil 21 = .ok (.ireturn, 1) := by decide +kernel
theorem dX9_asHalo_0 : decode cX9_asHalo 0 = .ok (.aload_n 0, 1) := by decide +kernel
theorem dX9_asHalo_1 : decode cX9_asHalo 1 = .ok (.dup, 1) := by decide +kernel
theorem dX9_asHalo_2 : decode cX9_asHalo 2 = .ok (.getfield 262, 3) := by decide +kernel
theorem dX9_asHalo_5 : decode cX9_asHalo 5 = .ok (.ldc2_w 270, 3) := by decide +kernel
theorem dX9_asHalo_8 : decode cX9_asHalo 8 = .ok (.ladd, 1) := by decide +kernel
theorem dX9_asHalo_9 : decode cX9_asHalo 9 = .ok (.putfield 262, 3) := by decide +kernel
theorem dX9_asHalo_12 : decode cX9_asHalo 12 = .ok (.aload_n 0, 1) := by decide +kernel
theorem dX9_asHalo_13 : decode cX9_asHalo 13 = .ok (.iload_n 1, 1) := by decide +kernel
theorem dX9_asHalo_14 : decode cX9_asHalo 14 = .ok (.invokevirtual 236, 3) := by decide +kernel
theorem dX9_asHalo_17 : decode cX9_asHalo 17 = .ok (.iconst 2, 1) := by decide +kernel
theorem dX9_asHalo_18 : decode cX9_asHalo 18 = .ok (.imul, 1) := by decide +kernel
theorem dX9_asHalo_19 : decode cX9_asHalo 19 = .ok (.ireturn, 1) := by decide +kernel
theorem dX9_asTail_0 : decode cX9_asTail 0 = .ok (.aload_n 0, 1) := by decide +kernel
theorem dX9_asTail_1 : decode cX9_asTail 1 = .ok (.dup, 1) := by decide +kernel
theorem dX9_asTail_2 : decode cX9_asTail 2 = .ok (.getfield 262, 3) := by decide +kernel
theorem dX9_asTail_5 : decode cX9_asTail 5 = .ok (.ldc2_w 272, 3) := by decide +kernel
theorem dX9_asTail_8 : decode cX9_asTail 8 = .ok (.ladd, 1) := by decide +kernel
theorem dX9_asTail_9 : decode cX9_asTail 9 = .ok (.putfield 262, 3) := by decide +kernel
theorem dX9_asTail_12 : decode cX9_asTail 12 = .ok (.aload_n 0, 1) := by decide +kernel
theorem dX9_asTail_13 : decode cX9_asTail 13 = .ok (.iload_n 1, 1) := by decide +kernel
theorem dX9_asTail_14 : decode cX9_asTail 14 = .ok (.invokevirtual 239, 3) := by decide +kernel
theorem dX9_asTail_17 : decode cX9_asTail 17 = .ok (.iload_n 1, 1) := by decide +kernel
theorem dX9_asTail_18 : decode cX9_asTail 18 = .ok (.iadd, 1) := by decide +kernel
theorem dX9_asTail_19 : decode cX9_asTail 19 = .ok (.ireturn, 1) := by decide +kernel
theorem dX9_asLead_0 : decode cX9_asLead 0 = .ok (.aload_n 0, 1) := by decide +kernel
theorem dX9_asLead_1 : decode cX9_asLead 1 = .ok (.dup, 1) := by decide +kernel
theorem dX9_asLead_2 : decode cX9_asLead 2 = .ok (.getfield 262, 3) := by decide +kernel
theorem dX9_asLead_5 : decode cX9_asLead 5 = .ok (.ldc2_w 274, 3) := by decide +kernel
theorem dX9_asLead_8 : decode cX9_asLead 8 = .ok (.ladd, 1) := by decide +kernel
theorem dX9_asLead_9 : decode cX9_asLead 9 = .ok (.putfield 262, 3) := by decide +kernel
theorem dX9_asLead_12 : decode cX9_asLead 12 = .ok (.aload_n 0, 1) := by decide +kernel
theorem dX9_asLead_13 : decode cX9_asLead 13 = .ok (.iload_n 1, 1) := by decide +kernel
theorem dX9_asLead_14 : decode cX9_asLead 14 = .ok (.invokevirtual 233, 3) := by decide +kernel
theorem dX9_asLead_17 : decode cX9_asLead 17 = .ok (.aload_n 0, 1) := by decide +kernel
theorem dX9_asLead_18 : decode cX9_asLead 18 = .ok (.getfield 19, 3) := by decide +kernel
theorem dX9_asLead_21 : decode cX9_asLead 21 = .ok (.getfield 58, 3) := by decide +kernel
theorem dX9_asLead_24 : decode cX9_asLead 24 = .ok (.getfield 98, 3) := by decide +kernel
theorem dX9_asLead_27 : decode cX9_asLead 27 = .ok (.getfield 135, 3) := by decide +kernel
theorem dX9_asLead_30 : decode cX9_asLead 30 = .ok (.iadd, 1) := by decide +kernel
theorem dX9_asLead_31 : decode cX9_asLead 31 = .ok (.ireturn, 1) := by decide +kernel
theorem dX9_clearOfHundred_0 : decode cX9_clearOfHundred 0 = .ok (.aload_n 0, 1) := by decide +kernel
theorem dX9_clearOfHundred_1 : decode cX9_clearOfHundred 1 = .ok (.getfield 19, 3) := by decide +kernel
theorem dX9_clearOfHundred_4 : decode cX9_clearOfHundred 4 = .ok (.iload_n 1, 1) := by decide +kernel
theorem dX9_clearOfHundred_5 : decode cX9_clearOfHundred 5 = .ok (.iload_n 2, 1) := by decide +kernel
theorem dX9_clearOfHundred_6 : decode cX9_clearOfHundred 6 = .ok (.invokevirtual 176, 3) := by decide +kernel
theorem dX9_clearOfHundred_9 : decode cX9_clearOfHundred 9 = .ok (.bipush 7, 2) := by decide +kernel
theorem dX9_clearOfHundred_11 : decode cX9_clearOfHundred 11 = .ok (.if_icmp .ne 6, 3) := by decide +kernel
theorem dX9_clearOfHundred_14 : decode cX9_clearOfHundred 14 = .ok (.bipush 100, 2) := by decide +kernel
theorem dX9_clearOfHundred_16 : decode cX9_clearOfHundred 16 = .ok (.ireturn, 1) := by decide +kernel
theorem dX9_clearOfHundred_17 : decode cX9_clearOfHundred 17 = .ok (.bipush 100, 2) := by decide +kernel
theorem dX9_clearOfHundred_19 : decode cX9_clearOfHundred 19 = .ok (.istore 4, 2) := by decide +kernel
theorem dX9_clearOfHundred_21 : decode cX9_clearOfHundred 21 = .ok (.aload_n 0, 1) := by decide +kernel
theorem dX9_clearOfHundred_22 : decode cX9_clearOfHundred 22 = .ok (.getfield 19, 3) := by decide +kernel
theorem dX9_clearOfHundred_25 : decode cX9_clearOfHundred 25 = .ok (.iload_n 1, 1) := by decide +kernel
theorem dX9_clearOfHundred_26 : decode cX9_clearOfHundred 26 = .ok (.iload_n 2, 1) := by decide +kernel
theorem dX9_clearOfHundred_27 : decode cX9_clearOfHundred 27 = .ok (.invokevirtual 276, 3) := by decide +kernel
theorem dX9_clearOfHundred_30 : decode cX9_clearOfHundred 30 = .ok (.iconst (-1), 1) := by decide +kernel
theorem dX9_clearOfHundred_31 : decode cX9_clearOfHundred 31 = .ok (.if_icmp .eq 15, 3) := by decide +kernel
theorem dX9_clearOfHundred_34 : decode cX9_clearOfHundred 34 = .ok (.iload 4, 2) := by decide +kernel
theorem dX9_clearOfHundred_36 : decode cX9_clearOfHundred 36 = .ok (.bipush 10, 2) := by decide +kernel
theorem dX9_clearOfHundred_38 : decode cX9_clearOfHundred 38 = .ok (.iload_n 3, 1) := by decide +kernel
theorem dX9_clearOfHundred_39 : decode cX9_clearOfHundred 39 = .ok (.isub, 1) := by decide +kernel
theorem dX9_clearOfHundred_40 : decode cX9_clearOfHundred 40 = .ok (.imul, 1) := by decide +kernel
theorem dX9_clearOfHundred_41 : decode cX9_clearOfHundred 41 = .ok (.bipush 10, 2) := by decide +kernel
theorem dX9_clearOfHundred_43 : decode cX9_clearOfHundred 43 = .ok (.idiv, 1) := by decide +kernel
theorem dX9_clearOfHundred_44 : decode cX9_clearOfHundred 44 = .ok (.istore 4, 2) := by decide +kernel
theorem dX9_clearOfHundred_46 : decode cX9_clearOfHundred 46 = .ok (.aload_n 0, 1) := by decide +kernel
theorem dX9_clearOfHundred_47 : decode cX9_clearOfHundred 47 = .ok (.getfield 19, 3) := by decide +kernel
theorem dX9_clearOfHundred_50 : decode cX9_clearOfHundred 50 = .ok (.iload_n 1, 1) := by decide +kernel
theorem dX9_clearOfHundred_51 : decode cX9_clearOfHundred 51 = .ok (.iload_n 2, 1) := by decide +kernel
theorem dX9_clearOfHundred_52 : decode cX9_clearOfHundred 52 = .ok (.invokevirtual 279, 3) := by decide +kernel
theorem dX9_clearOfHundred_55 : decode cX9_clearOfHundred 55 = .ok (.iconst (-1), 1) := by decide +kernel
theorem dX9_clearOfHundred_56 : decode cX9_clearOfHundred 56 = .ok (.if_icmp .eq 15, 3) := by decide +kernel
theorem dX9_clearOfHundred_59 : decode cX9_clearOfHundred 59 = .ok (.iload 4, 2) := by decide +kernel
theorem dX9_clearOfHundred_61 : decode cX9_clearOfHundred 61 = .ok (.bipush 10, 2) := by decide +kernel
theorem dX9_clearOfHundred_63 : decode cX9_clearOfHundred 63 = .ok (.iload_n 3, 1) := by decide +kernel
theorem dX9_clearOfHundred_64 : decode cX9_clearOfHundred 64 = .ok (.isub, 1) := by decide +kernel
theorem dX9_clearOfHundred_65 : decode cX9_clearOfHundred 65 = .ok (.imul, 1) := by decide +kernel
theorem dX9_clearOfHundred_66 : decode cX9_clearOfHundred 66 = .ok (.bipush 10, 2) := by decide +kernel
theorem dX9_clearOfHundred_68 : decode cX9_clearOfHundred 68 = .ok (.idiv, 1) := by decide +kernel
theorem dX9_clearOfHundred_69 : decode cX9_clearOfHundred 69 = .ok (.istore 4, 2) := by decide +kernel
theorem dX9_clearOfHundred_71 : decode cX9_clearOfHundred 71 = .ok (.bipush 100, 2) := by decide +kernel
theorem dX9_clearOfHundred_73 : decode cX9_clearOfHundred 73 = .ok (.iload 4, 2) := by decide +kernel
theorem dX9_clearOfHundred_75 : decode cX9_clearOfHundred 75 = .ok (.isub, 1) := by decide +kernel
theorem dX9_clearOfHundred_76 : decode cX9_clearOfHundred 76 = .ok (.ireturn, 1) := by decide +kernel
theorem dX9_greatestDivisor_0 : decode cX9_greatestDivisor 0 = .ok (.bipush 100, 2) := by decide +kernel
theorem dX9_greatestDivisor_2 : decode cX9_greatestDivisor 2 = .ok (.istore_n 2, 1) := by decide +kernel
theorem dX9_greatestDivisor_3 : decode cX9_greatestDivisor 3 = .ok (.iload_n 2, 1) := by decide +kernel
theorem dX9_greatestDivisor_4 : decode cX9_greatestDivisor 4 = .ok (.iconst 1, 1) := by decide +kernel
theorem dX9_greatestDivisor_5 : decode cX9_greatestDivisor 5 = .ok (.if_icmp .le 23, 3) := by decide +kernel
theorem dX9_greatestDivisor_8 : decode cX9_greatestDivisor 8 = .ok (.iload_n 0, 1) := by decide +kernel
theorem dX9_greatestDivisor_9 : decode cX9_greatestDivisor 9 = .ok (.iload_n 2, 1) := by decide +kernel
theorem dX9_greatestDivisor_10 : decode cX9_greatestDivisor 10 = .ok (.irem, 1) := by decide +kernel
theorem dX9_greatestDivisor_11 : decode cX9_greatestDivisor 11 = .ok (.ifCond .ne 11, 3) := by decide +kernel
theorem dX9_greatestDivisor_14 : decode cX9_greatestDivisor 14 = .ok (.iload_n 1, 1) := by decide +kernel
theorem dX9_greatestDivisor_15 : decode cX9_greatestDivisor 15 = .ok (.iload_n 2, 1) := by decide +kernel
theorem dX9_greatestDivisor_16 : decode cX9_greatestDivisor 16 = .ok (.irem, 1) := by decide +kernel
theorem dX9_greatestDivisor_17 : decode cX9_greatestDivisor 17 = .ok (.ifCond .ne 5, 3) := by decide +kernel
theorem dX9_greatestDivisor_20 : decode cX9_greatestDivisor 20 = .ok (.iload_n 2, 1) := by decide +kernel
theorem dX9_greatestDivisor_21 : decode cX9_greatestDivisor 21 = .ok (.ireturn, 1) := by decide +kernel
theorem dX9_greatestDivisor_22 : decode cX9_greatestDivisor 22 = .ok (.iinc 2 (-1), 3) := by decide +kernel
theorem dX9_greatestDivisor_25 : decode cX9_greatestDivisor 25 = .ok (.goto (-22), 3) := by decide +kernel
theorem dX9_greatestDivisor_28 : decode cX9_greatestDivisor 28 = .ok (.iconst 1, 1) := by decide +kernel
theorem dX9_greatestDivisor_29 : decode cX9_greatestDivisor 29 = .ok (.ireturn, 1) := by decide +kernel
theorem dX10_init_0 : decode cX10_init 0 = .ok (.aload_n 0, 1) := by decide +kernel
theorem dX10_init_1 : decode cX10_init 1 = .ok (.invokespecial 1, 3) := by decide +kernel
theorem dX10_init_4 : decode cX10_init 4 = .ok (.aload_n 0, 1) := by decide +kernel
theorem dX10_init_5 : decode cX10_init 5 = .ok (.iconst 5, 1) := by decide +kernel
theorem dX10_init_6 : decode cX10_init 6 = .ok (.putfield 7, 3) := by decide +kernel
theorem dX10_init_9 : decode cX10_init 9 = .ok (.aload_n 0, 1) := by decide +kernel
theorem dX10_init_10 : decode cX10_init 10 = .ok (.iconst 4, 1) := by decide +kernel
theorem dX10_init_11 : decode cX10_init 11 = .ok (.putfield 13, 3) := by decide +kernel
theorem dX10_init_14 : decode cX10_init 14 = .ok (.aload_n 0, 1) := by decide +kernel
theorem dX10_init_15 : decode cX10_init 15 = .ok (.bipush 20, 2) := by decide +kernel
theorem dX10_init_17 : decode cX10_init 17 = .ok (.newarray .int, 2) := by decide +kernel
theorem dX10_init_19 : decode cX10_init 19 = .ok (.putfield 16, 3) := by decide +kernel
theorem dX10_init_22 : decode cX10_init 22 = .ok (.aload_n 0, 1) := by decide +kernel
theorem dX10_init_23 : decode cX10_init 23 = .ok (.bipush 8, 2) := by decide +kernel
theorem dX10_init_25 : decode cX10_init 25 = .ok (.newarray .int, 2) := by decide +kernel
theorem dX10_init_27 : decode cX10_init 27 = .ok (.putfield 20, 3) := by decide +kernel
theorem dX10_init_30 : decode cX10_init 30 = .ok (.aload_n 0, 1) := by decide +kernel
theorem dX10_init_31 : decode cX10_init 31 = .ok (.bipush 11, 2) := by decide +kernel
theorem dX10_init_33 : decode cX10_init 33 = .ok (.newarray .int, 2) := by decide +kernel
theorem dX10_init_35 : decode cX10_init 35 = .ok (.putfield 23, 3) := by decide +kernel
theorem dX10_init_38 : decode cX10_init 38 = .ok (.aload_n 0, 1) := by decide +kernel
theorem dX10_init_39 : decode cX10_init 39 = .ok (.bipush 11, 2) := by decide +kernel
theorem dX10_init_41 : decode cX10_init 41 = .ok (.newarray .int, 2) := by decide +kernel
theorem dX10_init_43 : decode cX10_init 43 = .ok (.putfield 26, 3) := by decide +kernel
theorem dX10_init_46 : decode cX10_init 46 = .ok (.aload_n 0, 1) := by decide +kernel
theorem dX10_init_47 : decode cX10_init 47 = .ok (.bipush 110, 2) := by decide +kernel
theorem dX10_init_49 : decode cX10_init 49 = .ok (.newarray .int, 2) := by decide +kernel
theorem dX10_init_51 : decode cX10_init 51 = .ok (.putfield 29, 3) := by decide +kernel
theorem dX10_init_54 : decode cX10_init 54 = .ok (.aload_n 0, 1) := by decide +kernel
theorem dX10_init_55 : decode cX10_init 55 = .ok (.bipush 22, 2) := by decide +kernel
theorem dX10_init_57 : decode cX10_init 57 = .ok (.newarray .int, 2) := by decide +kernel
theorem dX10_init_59 : decode cX10_init 59 = .ok (.putfield 32, 3) := by decide +kernel
theorem dX10_init_62 : decode cX10_init 62 = .ok (.aload_n 0, 1) := by decide +kernel
theorem dX10_init_63 : decode cX10_init 63 = .ok (.sipush 220, 3) := by decide +kernel
theorem dX10_init_66 : decode cX10_init 66 = .ok (.newarray .int, 2) := by decide +kernel
theorem dX10_init_68 : decode cX10_init 68 = .ok (.putfield 35, 3) := by decide +kernel
theorem dX10_init_71 : decode cX10_init 71 = .ok (.aload_n 0, 1) := by decide +kernel
theorem dX10_init_72 : decode cX10_init 72 = .ok (.iconst 2, 1) := by decide +kernel
theorem dX10_init_73 : decode cX10_init 73 = .ok (.newarray .int, 2) := by decide +kernel
theorem dX10_init_75 : decode cX10_init 75 = .ok (.putfield 38, 3) := by decide +kernel
theorem dX10_init_78 : decode cX10_init 78 = .ok (.aload_n 0, 1) := by decide +kernel
theorem dX10_init_79 : decode cX10_init 79 = .ok (.iconst 2, 1) := by decide +kernel
theorem dX10_init_80 : decode cX10_init 80 = .ok (.newarray .boolean, 2) := by decide +kernel
theorem dX10_init_82 : decode cX10_init 82 = .ok (.putfield 41, 3) := by decide +kernel
theorem dX10_init_85 : decode cX10_init 85 = .ok (.aload_n 0, 1) := by decide +kernel
theorem dX10_init_86 : decode cX10_init 86 = .ok (.bipush 24, 2) := by decide +kernel
theorem dX10_init_88 : decode cX10_init 88 = .ok (.newarray .int, 2) := by decide +kernel
theorem dX10_init_90 : decode cX10_init 90 = .ok (.putfield 45, 3) := by decide +kernel
theorem dX10_init_93 : decode cX10_init 93 = .ok (.aload_n 0, 1) := by decide +kernel
theorem dX10_init_94 : decode cX10_init 94 = .ok (.sipush 170, 3) := by decide +kernel
theorem dX10_init_97 : decode cX10_init 97 = .ok (.newarray .int, 2) := by decide +kernel
theorem dX10_init_99 : decode cX10_init 99 = .ok (.putfield 48, 3) := by decide +kernel
theorem dX10_init_102 : decode cX10_init 102 = .ok (.aload_n 0, 1) := by decide +kernel
theorem dX10_init_103 : decode cX10_init 103 = .ok (.bipush 20, 2) := by decide +kernel
theorem dX10_init_105 : decode cX10_init 105 = .ok (.newarray .int, 2) := by decide +kernel
theorem dX10_init_107 : decode cX10_init 107 = .ok (.putfield 51, 3) := by decide +kernel
theorem dX10_init_110 : decode cX10_init 110 = .ok (.aload_n 0, 1) := by decide +kernel
theorem dX10_init_111 : decode cX10_init 111 = .ok (.bipush 8, 2) := by decide +kernel
theorem dX10_init_113 : decode cX10_init 113 = .ok (.newarray .int, 2) := by decide +kernel
theorem dX10_init_115 : decode cX10_init 115 = .ok (.putfield 54, 3) := by decide +kernel
theorem dX10_init_118 : decode cX10_init 118 = .ok (.aload_n 0, 1) := by decide +kernel
theorem dX10_init_119 : decode cX10_init 119 = .ok (.bipush 20, 2) := by decide +kernel
theorem dX10_init_121 : decode cX10_init 121 = .ok (.newarray .int, 2) := by decide +kernel
theorem dX10_init_123 : decode cX10_init 123 = .ok (.putfield 57, 3) := by decide +kernel
theorem dX10_init_126 : decode cX10_init 126 = .ok (.aload_n 0, 1) := by decide +kernel
theorem dX10_init_127 : decode cX10_init 127 = .ok (.bipush 20, 2) := by decide +kernel
theorem dX10_init_129 : decode cX10_init 129 = .ok (.newarray .int, 2) := by decide +kernel
theorem dX10_init_131 : decode cX10_init 131 = .ok (.putfield 60, 3) := by decide +kernel
theorem dX10_init_134 : decode cX10_init 134 = .ok (.aload_n 0, 1) := by decide +kernel
theorem dX10_init_135 : decode cX10_init 135 = .ok (.sipush 756, 3) := by decide +kernel
theorem dX10_init_138 : decode cX10_init 138 = .ok (.newarray .int, 2) := by decide +kernel
theorem dX10_init_140 : decode cX10_init 140 = .ok (.putfield 63, 3) := by decide +kernel
theorem dX10_init_143 : decode cX10_init 143 = .ok (.aload_n 0, 1) := by decide +kernel
theorem dX10_init_144 : decode cX10_init 144 = .ok (.bipush 8, 2) := by decide +kernel
theorem dX10_init_146 : decode cX10_init 146 = .ok (.newarray .int, 2) := by decide +kernel
theorem dX10_init_148 : decode cX10_init 148 = .ok (.putfield 66, 3) := by decide +kernel
theorem dX10_init_151 : decode cX10_init 151 = .ok (.iconst 0, 1) := by decide +kernel
theorem dX10_init_152 : decode cX10_init 152 = .ok (.istore_n 1, 1) := by decide +kernel
theorem dX10_init_153 : decode cX10_init 153 = .ok (.iload_n 1, 1) := by decide +kernel
theorem dX10_init_154 : decode cX10_init 154 = .ok (.bipush 20, 2) := by decide +kernel
theorem dX10_init_156 : decode cX10_init 156 = .ok (.if_icmp .ge 17, 3) := by decide +kernel
theorem dX10_init_159 : decode cX10_init 159 = .ok (.aload_n 0, 1) := by decide +kernel
theorem dX10_init_160 : decode cX10_init 160 = .ok (.getfield 16, 3) := by decide +kernel
theorem dX10_init_163 : decode cX10_init 163 = .ok (.iload_n 1, 1) := by decide +kernel
theorem dX10_init_164 : decode cX10_init 164 = .ok (.bipush 7, 2) := by decide +kernel
theorem dX10_init_166 : decode cX10_init 166 = .ok (.iastore, 1) := by decide +kernel
theorem dX10_init_167 : decode cX10_init 167 = .ok (.iinc 1 1, 3) := by decide +kernel
theorem dX10_init_170 : decode cX10_init 170 = .ok (.goto (-17), 3) := by decide +kernel
theorem dX10_init_173 : decode cX10_init 173 = .ok (.aload_n 0, 1) := by decide +kernel
theorem dX10_init_174 : decode cX10_init 174 = .ok (.bipush 12, 2) := by decide +kernel
theorem dX10_init_176 : decode cX10_init 176 = .ok (.iconst 0, 1) := by decide +kernel
theorem dX10_init_177 : decode cX10_init 177 = .ok (.invokevirtual 69, 3) := by decide +kernel
theorem dX10_init_180 : decode cX10_init 180 = .ok (.return_, 1) := by decide +kernel
theorem dX10_in_0 : decode cX10_in 0 = .ok (.lload_n 0, 1) := by decide +kernel
theorem dX10_in_1 : decode cX10_in 1 = .ok (.lload_n 2, 1) := by decide +kernel
theorem dX10_in_2 : decode cX10_in 2 = .ok (.lcmp, 1) := by decide +kernel
theorem dX10_in_3 : decode cX10_in 3 = .ok (.ifCond .lt 14, 3) := by decide +kernel
theorem dX10_in_6 : decode cX10_in 6 = .ok (.lload_n 0, 1) := by decide +kernel
theorem dX10_in_7 : decode cX10_in 7 = .ok (.lload 4, 2) := by decide +kernel
theorem dX10_in_9 : decode cX10_in 9 = .ok (.lcmp, 1) := by decide +kernel
theorem dX10_in_10 : decode cX10_in 10 = .ok (.ifCond .gt 7, 3) := by decide +kernel
theorem dX10_in_13 : decode cX10_in 13 = .ok (.iconst 1, 1) := by decide +kernel
theorem dX10_in_14 : decode cX10_in 14 = .ok (.goto 4, 3) := by decide +kernel
theorem dX10_in_17 : decode cX10_in 17 = .ok (.iconst 0, 1) := by decide +kernel
theorem dX10_in_18 : decode cX10_in 18 = .ok (.ireturn, 1) := by decide +kernel
theorem dX10_has_0 : decode cX10_has 0 = .ok (.iload_n 0, 1) := by decide +kernel
theorem dX10_has_1 : decode cX10_has 1 = .ok (.iload_n 1, 1) := by decide +kernel
theorem dX10_has_2 : decode cX10_has 2 = .ok (.ishr, 1) := by decide +kernel
theorem dX10_has_3 : decode cX10_has 3 = .ok (.iconst 1, 1) := by decide +kernel
theorem dX10_has_4 : decode cX10_has 4 = .ok (.iand, 1) := by decide +kernel
theorem dX10_has_5 : decode cX10_has 5 = .ok (.iconst 1, 1) := by decide +kernel
theorem dX10_has_6 : decode cX10_has 6 = .ok (.if_icmp .ne 7, 3) := by decide +kernel
theorem dX10_has_9 : decode cX10_has 9 = .ok (.iconst 1, 1) := by decide +kernel
theorem dX10_has_10 : decode cX10_has 10 = .ok (.goto 4, 3) := by decide +kernel
theorem dX10_has_13 : decode cX10_has 13 = .ok (.iconst 0, 1) := by decide +kernel
theorem dX10_has_14 : decode cX10_has 14 = .ok (.ireturn, 1) := by decide +kernel
theorem dX10_bits_0 : decode cX10_bits 0 = .ok (.iconst 0, 1) := by decide +kernel
theorem dX10_bits_1 : decode cX10_bits 1 = .ok (.istore_n 1, 1) := by decide +kernel
theorem dX10_bits_2 : decode cX10_bits 2 = .ok (.iload_n 0, 1) := by decide +kernel
theorem dX10_bits_3 : decode cX10_bits 3 = .ok (.istore_n 2, 1) := by decide +kernel
theorem dX10_bits_4 : decode cX10_bits 4 = .ok (.iload_n 2, 1) := by decide +kernel
theorem dX10_bits_5 : decode cX10_bits 5 = .ok (.ifCond .eq 15, 3) := by decide +kernel
theorem dX10_bits_8 : decode cX10_bits 8 = .ok (.iinc 1 1, 3) := by decide +kernel
theorem dX10_bits_11 : decode cX10_bits 11 = .ok (.iload_n 2, 1) := by decide +kernel
theorem dX10_bits_12 : decode cX10_bits 12 = .ok (.iload_n 2, 1) := by decide +kernel
theorem dX10_bits_13 : decode cX10_bits 13 = .ok (.iconst 1, 1) := by decide +kernel
theorem dX10_bits_14 : decode cX10_bits 14 = .ok (.isub, 1) := by decide +kernel
theorem dX10_bits_15 : decode cX10_bits 15 = .ok (.iand, 1) := by decide +kernel
theorem dX10_bits_16 : decode cX10_bits 16 = .ok (.istore_n 2, 1) := by decide +kernel
theorem dX10_bits_17 : decode cX10_bits 17 = .ok (.goto (-13), 3) := by decide +kernel
theorem dX10_bits_20 : decode cX10_bits 20 = .ok (.iload_n 1, 1) := by decide +kernel
theorem dX10_bits_21 : decode cX10_bits 21 = .ok (.ireturn, 1) := by decide +kernel
theorem dX10_copies_0 : decode cX10_copies 0 = .ok (.iconst 0, 1) := by decide +kernel
theorem dX10_copies_1 : decode cX10_copies 1 = .ok (.istore 5, 2) := by decide +kernel
theorem dX10_copies_3 : decode cX10_copies 3 = .ok (.iload 5, 2) := by decide +kernel
theorem dX10_copies_5 : decode cX10_copies 5 = .ok (.iload 4, 2) := by decide +kernel
theorem dX10_copies_7 : decode cX10_copies 7 = .ok (.if_icmp .ge 21, 3) := by decide +kernel
theorem dX10_copies_10 : decode cX10_copies 10 = .ok (.aload_n 2, 1) := by decide +kernel
theorem dX10_copies_11 : decode cX10_copies 11 = .ok (.iload_n 3, 1) := by decide +kernel
theorem dX10_copies_12 : decode cX10_copies 12 = .ok (.iload 5, 2) := by decide +kernel
theorem dX10_copies_14 : decode cX10_copies 14 = .ok (.iadd, 1) := by decide +kernel
theorem dX10_copies_15 : decode cX10_copies 15 = .ok (.aload_n 0, 1) := by decide +kernel
theorem dX10_copies_16 : decode cX10_copies 16 = .ok (.iload_n 1, 1) := by decide +kernel
theorem dX10_copies_17 : decode cX10_copies 17 = .ok (.iload 5, 2) := by decide +kernel
theorem dX10_copies_19 : decode cX10_copies 19 = .ok (.iadd, 1) := by decide +kernel
theorem dX10_copies_20 : decode cX10_copies 20 = .ok (.iaload, 1) := by decide +kernel
theorem dX10_copies_21 : decode cX10_copies 21 = .ok (.iastore, 1) := by decide +kernel
theorem dX10_copies_22 : decode cX10_copies 22 = .ok (.iinc 5 1, 3) := by decide +kernel
theorem dX10_copies_25 : decode cX10_copies 25 = .ok (.goto (-22), 3) := by decide +kernel
theorem dX10_copies_28 : decode cX10_copies 28 = .ok (.return_, 1) := by decide +kernel
theorem dX10_begins_0 : decode cX10_begins 0 = .ok (.iconst 0, 1) := by decide +kernel
theorem dX10_begins_1 : decode cX10_begins 1 = .ok (.istore_n 3, 1) := by decide +kernel
theorem dX10_begins_2 : decode cX10_begins 2 = .ok (.iload_n 3, 1) := by decide +kernel
theorem dX10_begins_3 : decode cX10_begins 3 = .ok (.bipush 8, 2) := by decide +kernel
theorem dX10_begins_5 : decode cX10_begins 5 = .ok (.if_icmp .ge 19, 3) := by decide +kernel
theorem dX10_begins_8 : decode cX10_begins 8 = .ok (.aload_n 0, 1) := by decide +kernel
theorem dX10_begins_9 : decode cX10_begins 9 = .ok (.getfield 23, 3) := by decide +kernel
theorem dX10_begins_12 : decode cX10_begins 12 = .ok (.iconst 0, 1) := by decide +kernel
theorem dX10_begins_13 : decode cX10_begins 13 = .ok (.iload_n 3, 1) := by decide +kernel
theorem dX10_begins_14 : decode cX10_begins 14 = .ok (.iadd, 1) := by decide +kernel
theorem dX10_begins_15 : decode cX10_begins 15 = .ok (.bipush (-9), 2) := by decide +kernel
theorem dX10_begins_17 : decode cX10_begins 17 = .ok (.iastore, 1) := by decide +kernel
theorem dX10_begins_18 : decode cX10_begins 18 = .ok (.iinc 3 1, 3) := by decide +kernel
theorem dX10_begins_21 : decode cX10_begins 21 = .ok (.goto (-19), 3) := by decide +kernel
theorem dX10_begins_24 : decode cX10_begins 24 = .ok (.aload_n 0, 1) := by decide +kernel
theorem dX10_begins_25 : decode cX10_begins 25 = .ok (.getfield 23, 3) := by decide +kernel
theorem dX10_begins_28 : decode cX10_begins 28 = .ok (.bipush 8, 2) := by decide +kernel
theorem dX10_begins_30 : decode cX10_begins 30 = .ok (.iconst 0, 1) := by decide +kernel
theorem dX10_begins_31 : decode cX10_begins 31 = .ok (.iastore, 1) := by decide +kernel
theorem dX10_begins_32 : decode cX10_begins 32 = .ok (.aload_n 0, 1) := by decide +kernel
theorem dX10_begins_33 : decode cX10_begins 33 = .ok (.getfield 23, 3) := by decide +kernel
theorem dX10_begins_36 : decode cX10_begins 36 = .ok (.bipush 9, 2) := by decide +kernel
theorem dX10_begins_38 : decode cX10_begins 38 = .ok (.iload_n 1, 1) := by decide +kernel
theorem dX10_begins_39 : decode cX10_begins 39 = .ok (.iastore, 1) := by decide +kernel
theorem dX10_begins_40 : decode cX10_begins 40 = .ok (.aload_n 0, 1) := by decide +kernel
theorem dX10_begins_41 : decode cX10_begins 41 = .ok (.getfield 23, 3) := by decide +kernel
theorem dX10_begins_44 : decode cX10_begins 44 = .ok (.bipush 10, 2) := by decide +kernel
theorem dX10_begins_46 : decode cX10_begins 46 = .ok (.iload_n 2, 1) := by decide +kernel
theorem dX10_begins_47 : decode cX10_begins 47 = .ok (.iastore, 1) := by decide +kernel
theorem dX10_begins_48 : decode cX10_begins 48 = .ok (.aload_n 0, 1) := by decide +kernel
theorem dX10_begins_49 : decode cX10_begins 49 = .ok (.iconst 0, 1) := by decide +kernel
theorem dX10_begins_50 : decode cX10_begins 50 = .ok (.putfield 73, 3) := by decide +kernel
theorem dX10_begins_53 : decode cX10_begins 53 = .ok (.aload_n 0, 1) := by decide +kernel
theorem dX10_begins_54 : decode cX10_begins 54 = .ok (.iconst 0, 1) := by decide +kernel
theorem dX10_begins_55 : decode cX10_begins 55 = .ok (.putfield 76, 3) := by decide +kernel
theorem dX10_begins_58 : decode cX10_begins 58 = .ok (.aload_n 0, 1) := by decide +kernel
theorem dX10_begins_59 : decode cX10_begins 59 = .ok (.getfield 41, 3) := by decide +kernel
theorem dX10_begins_62 : decode cX10_begins 62 = .ok (.iconst 0, 1) := by decide +kernel
theorem dX10_begins_63 : decode cX10_begins 63 = .ok (.iconst 0, 1) := by decide +kernel
theorem dX10_begins_64 : decode cX10_begins 64 = .ok (.bastore, 1) := by decide +kernel
theorem dX10_begins_65 : decode cX10_begins 65 = .ok (.aload_n 0, 1) := by decide +kernel
theorem dX10_begins_66 : decode cX10_begins 66 = .ok (.getfield 41, 3) := by decide +kernel
theorem dX10_begins_69 : decode cX10_begins 69 = .ok (.iconst 1, 1) := by decide +kernel
theorem dX10_begins_70 : decode cX10_begins 70 = .ok (.iconst 0, 1) := by decide +kernel
theorem dX10_begins_71 : decode cX10_begins 71 = .ok (.bastore, 1) := by decide +kernel
theorem dX10_begins_72 : decode cX10_begins 72 = .ok (.return_, 1) := by decide +kernel
theorem dX10_type_0 : decode cX10_type 0 = .ok (.iload_n 1, 1) := by decide +kernel
theorem dX10_type_1 : decode cX10_type 1 = .ok (.i2l, 1) := by decide +kernel
theorem dX10_type_2 : decode cX10_type 2 = .ok (.lconst 0, 1) := by decide +kernel
theorem dX10_type_3 : decode cX10_type 3 = .ok (.ldc2_w 79, 3) := by decide +kernel
theorem dX10_type_6 : decode cX10_type 6 = .ok (.invokestatic 81, 3) := by decide +kernel
theorem dX10_type_9 : decode cX10_type 9 = .ok (.ifCond .ne 5, 3) := by decide +kernel
theorem dX10_type_12 : decode cX10_type 12 = .ok (.iconst (-1), 1) := by decide +kernel
theorem dX10_type_13 : decode cX10_type 13 = .ok (.ireturn, 1) := by decide +kernel
theorem dX10_type_14 : decode cX10_type 14 = .ok (.aload_n 0, 1) := by decide +kernel
theorem dX10_type_15 : decode cX10_type 15 = .ok (.getfield 85, 3) := by decide +kernel
theorem dX10_type_18 : decode cX10_type 18 = .ok (.sipush 170, 3) := by decide +kernel
theorem dX10_type_21 : decode cX10_type 21 = .ok (.if_icmp .ne 6, 3) := by decide +kernel
theorem dX10_type_24 : decode cX10_type 24 = .ok (.bipush (-3), 2) := by decide +kernel
theorem dX10_type_26 : decode cX10_type 26 = .ok (.ireturn, 1) := by decide +kernel
theorem dX10_type_27 : decode cX10_type 27 = .ok (.aload_n 0, 1) := by decide +kernel
theorem dX10_type_28 : decode cX10_type 28 = .ok (.getfield 48, 3) := by decide +kernel
theorem dX10_type_31 : decode cX10_type 31 = .ok (.aload_n 0, 1) := by decide +kernel
theorem dX10_type_32 : decode cX10_type 32 = .ok (.getfield 85, 3) := by decide +kernel
theorem dX10_type_35 : decode cX10_type 35 = .ok (.iload_n 1, 1) := by decide +kernel
theorem dX10_type_36 : decode cX10_type 36 = .ok (.iastore, 1) := by decide +kernel
theorem dX10_type_37 : decode cX10_type 37 = .ok (.aload_n 0, 1) := by decide +kernel
theorem dX10_type_38 : decode cX10_type 38 = .ok (.dup, 1) := by decide +kernel
theorem dX10_type_39 : decode cX10_type 39 = .ok (.getfield 85, 3) := by decide +kernel
theorem dX10_type_42 : decode cX10_type 42 = .ok (.iconst 1, 1) := by decide +kernel
theorem dX10_type_43 : decode cX10_type 43 = .ok (.iadd, 1) := by decide +kernel
theorem dX10_type_44 : decode cX10_type 44 = .ok (.putfield 85, 3) := by decide +kernel
theorem dX10_type_47 : decode cX10_type 47 = .ok (.aload_n 0, 1) := by decide +kernel
theorem dX10_type_48 : decode cX10_type 48 = .ok (.getfield 85, 3) := by decide +kernel
theorem dX10_type_51 : decode cX10_type 51 = .ok (.ireturn, 1) := by decide +kernel
theorem dX10_clear_0 : decode cX10_clear 0 = .ok (.aload_n 0, 1) := by decide +kernel
theorem dX10_clear_1 : decode cX10_clear 1 = .ok (.getfield 85, 3) := by decide +kernel
theorem dX10_clear_4 : decode cX10_clear 4 = .ok (.istore_n 1, 1) := by decide +kernel
theorem dX10_clear_5 : decode cX10_clear 5 = .ok (.aload_n 0, 1) := by decide +kernel
theorem dX10_clear_6 : decode cX10_clear 6 = .ok (.iconst 0, 1) := by decide +kernel
theorem dX10_clear_7 : decode cX10_clear 7 = .ok (.putfield 85, 3) := by decide +kernel
theorem dX10_clear_10 : decode cX10_clear 10 = .ok (.iload_n 1, 1) := by decide +kernel
theorem dX10_clear_11 : decode cX10_clear 11 = .ok (.ireturn, 1) := by decide +kernel
theorem dX10_isLetter_0 : decode cX10_isLetter 0 = .ok (.aload_n 0, 1) := by decide +kernel
theorem dX10_isLetter_1 : decode cX10_isLetter 1 = .ok (.getfield 88, 3) := by decide +kernel
theorem dX10_isLetter_4 : decode cX10_isLetter 4 = .ok (.aload_n 0, 1) := by decide +kernel
theorem dX10_isLetter_5 : decode cX10_isLetter 5 = .ok (.getfield 85, 3) := by decide +kernel
theorem dX10_isLetter_8 : decode cX10_isLetter 8 = .ok (.if_icmp .ge 29, 3) := by decide +kernel
theorem dX10_isLetter_11 : decode cX10_isLetter 11 = .ok (.aload_n 0, 1) := by decide +kernel
theorem dX10_isLetter_12 : decode cX10_isLetter 12 = .ok (.getfield 48, 3) := by decide +kernel
theorem dX10_isLetter_15 : decode cX10_isLetter 15 = .ok (.aload_n 0, 1) := by decide +kernel
theorem dX10_isLetter_16 : decode cX10_isLetter 16 = .ok (.getfield 88, 3) := by decide +kernel
theorem dX10_isLetter_19 : decode cX10_isLetter 19 = .ok (.iaload, 1) := by decide +kernel
theorem dX10_isLetter_20 : decode cX10_isLetter 20 = .ok (.i2l, 1) := by decide +kernel
theorem dX10_isLetter_21 : decode cX10_isLetter 21 = .ok (.ldc2_w 91, 3) := by decide +kernel
theorem dX10_isLetter_24 : decode cX10_isLetter 24 = .ok (.ldc2_w 93, 3) := by decide +kernel
theorem dX10_isLetter_27 : decode cX10_isLetter 27 = .ok (.invokestatic 81, 3) := by decide +kernel
theorem dX10_isLetter_30 : decode cX10_isLetter 30 = .ok (.ifCond .eq 7, 3) := by decide +kernel
theorem dX10_isLetter_33 : decode cX10_isLetter 33 = .ok (.iconst 1, 1) := by decide +kernel
theorem dX10_isLetter_34 : decode cX10_isLetter 34 = .ok (.goto 4, 3) := by decide +kernel
theorem dX10_isLetter_37 : decode cX10_isLetter 37 = .ok (.iconst 0, 1) := by decide +kernel
theorem dX10_isLetter_38 : decode cX10_isLetter 38 = .ok (.ireturn, 1) := by decide +kernel
theorem dX10_isFigure_0 : decode cX10_isFigure 0 = .ok (.aload_n 0, 1) := by decide +kernel
theorem dX10_isFigure_1 : decode cX10_isFigure 1 = .ok (.getfield 88, 3) := by decide +kernel
theorem dX10_isFigure_4 : decode cX10_isFigure 4 = .ok (.aload_n 0, 1) := by decide +kernel
theorem dX10_isFigure_5 : decode cX10_isFigure 5 = .ok (.getfield 85, 3) := by decide +kernel
theorem dX10_isFigure_8 : decode cX10_isFigure 8 = .ok (.if_icmp .ge 29, 3) := by decide +kernel
theorem dX10_isFigure_11 : decode cX10_isFigure 11 = .ok (.aload_n 0, 1) := by decide +kernel
theorem dX10_isFigure_12 : decode cX10_isFigure 12 = .ok (.getfield 48, 3) := by decide +kernel
theorem dX10_isFigure_15 : decode cX10_isFigure 15 = .ok (.aload_n 0, 1) := by decide +kernel
theorem dX10_isFigure_16 : decode cX10_isFigure 16 = .ok (.getfield 88, 3) := by decide +kernel
theorem dX10_isFigure_19 : decode cX10_isFigure 19 = .ok (.iaload, 1) := by decide +kernel
theorem dX10_isFigure_20 : decode cX10_isFigure 20 = .ok (.i2l, 1) := by decide +kernel
theorem dX10_isFigure_21 : decode cX10_isFigure 21 = .ok (.ldc2_w 95, 3) := by decide +kernel
theorem dX10_isFigure_24 : decode cX10_isFigure 24 = .ok (.ldc2_w 97, 3) := by decide +kernel
theorem dX10_isFigure_27 : decode cX10_isFigure 27 = .ok (.invokestatic 81, 3) := by decide +kernel
theorem dX10_isFigure_30 : decode cX10_isFigure 30 = .ok (.ifCond .eq 7, 3) := by decide +kernel
theorem dX10_isFigure_33 : decode cX10_isFigure 33 = .ok (.iconst 1, 1) := by decide +kernel
theorem dX10_isFigure_34 : decode cX10_isFigure 34 = .ok (.goto 4, 3) := by decide +kernel
theorem dX10_isFigure_37 : decode cX10_isFigure 37 = .ok (.iconst 0, 1) := by decide +kernel
theorem dX10_isFigure_38 : decode cX10_isFigure 38 = .ok (.ireturn, 1) := by decide +kernel
theorem dX10_step_0 : decode cX10_step 0 = .ok (.aload_n 0, 1) := by decide +kernel
theorem dX10_step_1 : decode cX10_step 1 = .ok (.getfield 88, 3) := by decide +kernel
theorem dX10_step_4 : decode cX10_step 4 = .ok (.aload_n 0, 1) := by decide +kernel
theorem dX10_step_5 : decode cX10_step 5 = .ok (.getfield 85, 3) := by decide +kernel
theorem dX10_step_8 : decode cX10_step 8 = .ok (.if_icmp .ge 30, 3) := by decide +kernel
theorem dX10_step_11 : decode cX10_step 11 = .ok (.aload_n 0, 1) := by decide +kernel
theorem dX10_step_12 : decode cX10_step 12 = .ok (.getfield 48, 3) := by decide +kernel
theorem dX10_step_15 : decode cX10_step 15 = .ok (.aload_n 0, 1) := by decide +kernel
theorem dX10_step_16 : decode cX10_step 16 = .ok (.getfield 88, 3) := by decide +kernel
theorem dX10_step_19 : decode cX10_step 19 = .ok (.iaload, 1) := by decide +kernel
theorem dX10_step_20 : decode cX10_step 20 = .ok (.bipush 32, 2) := by decide +kernel
theorem dX10_step_22 : decode cX10_step 22 = .ok (.if_icmp .ne 16, 3) := by decide +kernel
theorem dX10_step_25 : decode cX10_step 25 = .ok (.aload_n 0, 1) := by decide +kernel
theorem dX10_step_26 : decode cX10_step 26 = .ok (.dup, 1) := by decide +kernel
theorem dX10_step_27 : decode cX10_step 27 = .ok (.getfield 88, 3) := by decide +kernel
theorem dX10_step_30 : decode cX10_step 30 = .ok (.iconst 1, 1) := by decide +kernel
theorem dX10_step_31 : decode cX10_step 31 = .ok (.iadd, 1) := by decide +kernel
theorem dX10_step_32 : decode cX10_step 32 = .ok (.putfield 88, 3) := by decide +kernel
theorem dX10_step_35 : decode cX10_step 35 = .ok (.goto (-35), 3) := by decide +kernel
theorem dX10_step_38 : decode cX10_step 38 = .ok (.aload_n 0, 1) := by decide +kernel
theorem dX10_step_39 : decode cX10_step 39 = .ok (.aload_n 0, 1) := by decide +kernel
theorem dX10_step_40 : decode cX10_step 40 = .ok (.getfield 88, 3) := by decide +kernel
theorem dX10_step_43 : decode cX10_step 43 = .ok (.putfield 99, 3) := by decide +kernel
theorem dX10_step_46 : decode cX10_step 46 = .ok (.aload_n 0, 1) := by decide +kernel
theorem dX10_step_47 : decode cX10_step 47 = .ok (.iconst 0, 1) := by decide +kernel
theorem dX10_step_48 : decode cX10_step 48 = .ok (.putfield 102, 3) := by decide +kernel
theorem dX10_step_51 : decode cX10_step 51 = .ok (.aload_n 0, 1) := by decide +kernel
theorem dX10_step_52 : decode cX10_step 52 = .ok (.iconst 0, 1) := by decide +kernel
theorem dX10_step_53 : decode cX10_step 53 = .ok (.putfield 105, 3) := by decide +kernel
theorem dX10_step_56 : decode cX10_step 56 = .ok (.aload_n 0, 1) := by decide +kernel
theorem dX10_step_57 : decode cX10_step 57 = .ok (.getfield 88, 3) := by decide +kernel
theorem dX10_step_60 : decode cX10_step 60 = .ok (.aload_n 0, 1) := by decide +kernel
theorem dX10_step_61 : decode cX10_step 61 = .ok (.getfield 85, 3) := by decide +kernel
theorem dX10_step_64 : decode cX10_step 64 = .ok (.if_icmp .ne 11, 3) := by decide +kernel
theorem dX10_step_67 : decode cX10_step 67 = .ok (.aload_n 0, 1) := by decide +kernel
theorem dX10_step_68 : decode cX10_step 68 = .ok (.iconst 0, 1) := by decide +kernel
theorem dX10_step_69 : decode cX10_step 69 = .ok (.putfield 108, 3) := by decide +kernel
theorem dX10_step_72 : decode cX10_step 72 = .ok (.goto 225, 3) := by decide +kernel
theorem dX10_step_75 : decode cX10_step 75 = .ok (.aload_n 0, 1) := by decide +kernel
theorem dX10_step_76 : decode cX10_step 76 = .ok (.invokevirtual 111, 3) := by decide +kernel
theorem dX10_step_79 : decode cX10_step 79 = .ok (.ifCond .eq 69, 3) := by decide +kernel
theorem dX10_step_82 : decode cX10_step 82 = .ok (.aload_n 0, 1) := by decide +kernel
theorem dX10_step_83 : decode cX10_step 83 = .ok (.iconst 1, 1) := by decide +kernel
theorem dX10_step_84 : decode cX10_step 84 = .ok (.putfield 108, 3) := by decide +kernel
theorem dX10_step_87 : decode cX10_step 87 = .ok (.aload_n 0, 1) := by decide +kernel
theorem dX10_step_88 : decode cX10_step 88 = .ok (.aload_n 0, 1) := by decide +kernel
theorem dX10_step_89 : decode cX10_step 89 = .ok (.getfield 48, 3) := by decide +kernel
theorem dX10_step_92 : decode cX10_step 92 = .ok (.aload_n 0, 1) := by decide +kernel
theorem dX10_step_93 : decode cX10_step 93 = .ok (.getfield 88, 3) := by decide +kernel
theorem dX10_step_96 : decode cX10_step 96 = .ok (.iaload, 1) := by decide +kernel
theorem dX10_step_97 : decode cX10_step 97 = .ok (.putfield 102, 3) := by decide +kernel
theorem dX10_step_100 : decode cX10_step 100 = .ok (.aload_n 0, 1) := by decide +kernel
theorem dX10_step_101 : decode cX10_step 101 = .ok (.invokevirtual 111, 3) := by decide +kernel
theorem dX10_step_104 : decode cX10_step 104 = .ok (.ifCond .eq 16, 3) := by decide +kernel
theorem dX10_step_107 : decode cX10_step 107 = .ok (.aload_n 0, 1) := by decide +kernel
theorem dX10_step_108 : decode cX10_step 108 = .ok (.dup, 1) := by decide +kernel
theorem dX10_step_109 : decode cX10_step 109 = .ok (.getfield 88, 3) := by decide +kernel
theorem dX10_step_112 : decode cX10_step 112 = .ok (.iconst 1, 1) := by decide +kernel
theorem dX10_step_113 : decode cX10_step 113 = .ok (.iadd, 1) := by decide +kernel
theorem dX10_step_114 : decode cX10_step 114 = .ok (.putfield 88, 3) := by decide +kernel
theorem dX10_step_117 : decode cX10_step 117 = .ok (.goto (-17), 3) := by decide +kernel
theorem dX10_step_120 : decode cX10_step 120 = .ok (.aload_n 0, 1) := by decide +kernel
theorem dX10_step_121 : decode cX10_step 121 = .ok (.aload_n 0, 1) := by decide +kernel
theorem dX10_step_122 : decode cX10_step 122 = .ok (.getfield 88, 3) := by decide +kernel
theorem dX10_step_125 : decode cX10_step 125 = .ok (.aload_n 0, 1) := by decide +kernel
theorem dX10_step_126 : decode cX10_step 126 = .ok (.getfield 99, 3) := by decide +kernel
theorem dX10_step_129 : decode cX10_step 129 = .ok (.isub, 1) := by decide +kernel
theorem dX10_step_130 : decode cX10_step 130 = .ok (.iconst 1, 1) := by decide +kernel
theorem dX10_step_131 : decode cX10_step 131 = .ok (.if_icmp .ne 10, 3) := by decide +kernel
theorem dX10_step_134 : decode cX10_step 134 = .ok (.aload_n 0, 1) := by decide +kernel
theorem dX10_step_135 : decode cX10_step 135 = .ok (.getfield 102, 3) := by decide +kernel
theorem dX10_step_138 : decode cX10_step 138 = .ok (.goto 4, 3) := by decide +kernel
theorem dX10_step_141 : decode cX10_step 141 = .ok (.iconst 0, 1) := by decide +kernel
theorem dX10_step_142 : decode cX10_step 142 = .ok (.putfield 102, 3) := by decide +kernel
theorem dX10_step_145 : decode cX10_step 145 = .ok (.goto 152, 3) := by decide +kernel
theorem dX10_step_148 : decode cX10_step 148 = .ok (.aload_n 0, 1) := by decide +kernel
theorem dX10_step_149 : decode cX10_step 149 = .ok (.invokevirtual 115, 3) := by decide +kernel
theorem dX10_step_152 : decode cX10_step 152 = .ok (.ifCond .eq 112, 3) := by decide +kernel
theorem dX10_step_155 : decode cX10_step 155 = .ok (.aload_n 0, 1) := by decide +kernel
theorem dX10_step_156 : decode cX10_step 156 = .ok (.iconst 2, 1) := by decide +kernel
theorem dX10_step_157 : decode cX10_step 157 = .ok (.putfield 108, 3) := by decide +kernel
theorem dX10_step_160 : decode cX10_step 160 = .ok (.aload_n 0, 1) := by decide +kernel
theorem dX10_step_161 : decode cX10_step 161 = .ok (.invokevirtual 115, 3) := by decide +kernel
theorem dX10_step_164 : decode cX10_step 164 = .ok (.ifCond .eq 56, 3) := by decide +kernel
theorem dX10_step_167 : decode cX10_step 167 = .ok (.aload_n 0, 1) := by decide +kernel
theorem dX10_step_168 : decode cX10_step 168 = .ok (.aload_n 0, 1) := by decide +kernel
theorem dX10_step_169 : decode cX10_step 169 = .ok (.getfield 105, 3) := by decide +kernel
theorem dX10_step_172 : decode cX10_step 172 = .ok (.bipush 99, 2) := by decide +kernel
theorem dX10_step_174 : decode cX10_step 174 = .ok (.if_icmp .le 10, 3) := by decide +kernel
theorem dX10_step_177 : decode cX10_step 177 = .ok (.aload_n 0, 1) := by decide +kernel
theorem dX10_step_178 : decode cX10_step 178 = .ok (.getfield 105, 3) := by decide +kernel
theorem dX10_step_181 : decode cX10_step 181 = .ok (.goto 23, 3) := by decide +kernel
theorem dX10_step_184 : decode cX10_step 184 = .ok (.bipush 10, 2) := by decide +kernel
theorem dX10_step_186 : decode cX10_step 186 = .ok (.aload_n 0, 1) := by decide +kernel
theorem dX10_step_187 : decode cX10_step 187 = .ok (.getfield 105, 3) := by decide +kernel
theorem dX10_step_190 : decode cX10_step 190 = .ok (.imul, 1) := by decide +kernel
theorem dX10_step_191 : decode cX10_step 191 = .ok (.aload_n 0, 1) := by decide +kernel
theorem dX10_step_192 : decode cX10_step 192 = .ok (.getfield 48, 3) := by decide +kernel
theorem dX10_step_195 : decode cX10_step 195 = .ok (.aload_n 0, 1) := by decide +kernel
theorem dX10_step_196 : decode cX10_step 196 = .ok (.getfield 88, 3) := by decide +kernel
theorem dX10_step_199 : decode cX10_step 199 = .ok (.iaload, 1) := by decide +kernel
theorem dX10_step_200 : decode cX10_step 200 = .ok (.iadd, 1) := by decide +kernel
theorem dX10_step_201 : decode cX10_step 201 = .ok (.bipush 48, 2) := by decide +kernel
theorem dX10_step_203 : decode cX10_step 203 = .ok (.isub, 1) := by decide +kernel
theorem dX10_step_204 : decode cX10_step 204 = .ok (.putfield 105, 3) := by decide +kernel
theorem dX10_step_207 : decode cX10_step 207 = .ok (.aload_n 0, 1) := by decide +kernel
theorem dX10_step_208 : decode cX10_step 208 = .ok (.dup, 1) := by decide +kernel
theorem dX10_step_209 : decode cX10_step 209 = .ok (.getfield 88, 3) := by decide +kernel
theorem dX10_step_212 : decode cX10_step 212 = .ok (.iconst 1, 1) := by decide +kernel
theorem dX10_step_213 : decode cX10_step 213 = .ok (.iadd, 1) := by decide +kernel
theorem dX10_step_214 : decode cX10_step 214 = .ok (.putfield 88, 3) := by decide +kernel
theorem dX10_step_217 : decode cX10_step 217 = .ok (.goto (-57), 3) := by decide +kernel
theorem dX10_step_220 : decode cX10_step 220 = .ok (.aload_n 0, 1) := by decide +kernel
theorem dX10_step_221 : decode cX10_step 221 = .ok (.aload_n 0, 1) := by decide +kernel
theorem dX10_step_222 : decode cX10_step 222 = .ok (.getfield 88, 3) := by decide +kernel
theorem dX10_step_225 : decode cX10_step 225 = .ok (.aload_n 0, 1) := by decide +kernel
theorem dX10_step_226 : decode cX10_step 226 = .ok (.getfield 99, 3) := by decide +kernel
theorem dX10_step_229 : decode cX10_step 229 = .ok (.isub, 1) := by decide +kernel
theorem dX10_step_230 : decode cX10_step 230 = .ok (.iconst 1, 1) := by decide +kernel
theorem dX10_step_231 : decode cX10_step 231 = .ok (.if_icmp .le 23, 3) := by decide +kernel
theorem dX10_step_234 : decode cX10_step 234 = .ok (.aload_n 0, 1) := by decide +kernel
theorem dX10_step_235 : decode cX10_step 235 = .ok (.getfield 48, 3) := by decide +kernel
theorem dX10_step_238 : decode cX10_step 238 = .ok (.aload_n 0, 1) := by decide +kernel
theorem dX10_step_239 : decode cX10_step 239 = .ok (.getfield 99, 3) := by decide +kernel
theorem dX10_step_242 : decode cX10_step 242 = .ok (.iaload, 1) := by decide +kernel
theorem dX10_step_243 : decode cX10_step 243 = .ok (.bipush 48, 2) := by decide +kernel
theorem dX10_step_245 : decode cX10_step 245 = .ok (.if_icmp .ne 9, 3) := by decide +kernel
theorem dX10_step_248 : decode cX10_step 248 = .ok (.sipush 1000, 3) := by decide +kernel
theorem dX10_step_251 : decode cX10_step 251 = .ok (.goto 7, 3) := by decide +kernel
theorem dX10_step_254 : decode cX10_step 254 = .ok (.aload_n 0, 1) := by decide +kernel
theorem dX10_step_255 : decode cX10_step 255 = .ok (.getfield 105, 3) := by decide +kernel
theorem dX10_step_258 : decode cX10_step 258 = .ok (.putfield 105, 3) := by decide +kernel
theorem dX10_step_261 : decode cX10_step 261 = .ok (.goto 36, 3) := by decide +kernel
theorem dX10_step_264 : decode cX10_step 264 = .ok (.aload_n 0, 1) := by decide +kernel
theorem dX10_step_265 : decode cX10_step 265 = .ok (.aload_n 0, 1) := by decide +kernel
theorem dX10_step_266 : decode cX10_step 266 = .ok (.getfield 48, 3) := by decide +kernel
theorem dX10_step_269 : decode cX10_step 269 = .ok (.aload_n 0, 1) := by decide +kernel
theorem dX10_step_270 : decode cX10_step 270 = .ok (.getfield 88, 3) := by decide +kernel
theorem dX10_step_273 : decode cX10_step 273 = .ok (.iaload, 1) := by decide +kernel
theorem dX10_step_274 : decode cX10_step 274 = .ok (.bipush 59, 2) := by decide +kernel
theorem dX10_step_276 : decode cX10_step 276 = .ok (.if_icmp .ne 7, 3) := by decide +kernel
theorem dX10_step_279 : decode cX10_step 279 = .ok (.iconst 3, 1) := by decide +kernel
theorem dX10_step_280 : decode cX10_step 280 = .ok (.goto 4, 3) := by decide +kernel
theorem dX10_step_283 : decode cX10_step 283 = .ok (.iconst 4, 1) := by decide +kernel
theorem dX10_step_284 : decode cX10_step 284 = .ok (.putfield 108, 3) := by decide +kernel
theorem dX10_step_287 : decode cX10_step 287 = .ok (.aload_n 0, 1) := by decide +kernel
theorem dX10_step_288 : decode cX10_step 288 = .ok (.dup, 1) := by decide +kernel
theorem dX10_step_289 : decode cX10_step 289 = .ok (.getfield 88, 3) := by decide +kernel
theorem dX10_step_292 : decode cX10_step 292 = .ok (.iconst 1, 1) := by decide +kernel
theorem dX10_step_293 : decode cX10_step 293 = .ok (.iadd, 1) := by decide +kernel
theorem dX10_step_294 : decode cX10_step 294 = .ok (.putfield 88, 3) := by decide +kernel
theorem dX10_step_297 : decode cX10_step 297 = .ok (.return_, 1) := by decide +kernel
theorem dX10_number_0 : decode cX10_number 0 = .ok (.aload_n 0, 1) := by decide +kernel
theorem dX10_number_1 : decode cX10_number 1 = .ok (.invokevirtual 118, 3) := by decide +kernel
theorem dX10_number_4 : decode cX10_number 4 = .ok (.aload_n 0, 1) := by decide +kernel
theorem dX10_number_5 : decode cX10_number 5 = .ok (.getfield 108, 3) := by decide +kernel
theorem dX10_number_8 : decode cX10_number 8 = .ok (.iconst 2, 1) := by decide +kernel
theorem dX10_number_9 : decode cX10_number 9 = .ok (.if_icmp .ne 22, 3) := by decide +kernel
theorem dX10_number_12 : decode cX10_number 12 = .ok (.aload_n 0, 1) := by decide +kernel
theorem dX10_number_13 : decode cX10_number 13 = .ok (.getfield 105, 3) := by decide +kernel
theorem dX10_number_16 : decode cX10_number 16 = .ok (.i2l, 1) := by decide +kernel
theorem dX10_number_17 : decode cX10_number 17 = .ok (.iload_n 1, 1) := by decide +kernel
theorem dX10_number_18 : decode cX10_number 18 = .ok (.i2l, 1) := by decide +kernel
theorem dX10_number_19 : decode cX10_number 19 = .ok (.iload_n 2, 1) := by decide +kernel
theorem dX10_number_20 : decode cX10_number 20 = .ok (.i2l, 1) := by decide +kernel
theorem dX10_number_21 : decode cX10_number 21 = .ok (.invokestatic 81, 3) := by decide +kernel
theorem dX10_number_24 : decode cX10_number 24 = .ok (.ifCond .eq 7, 3) := by decide +kernel
theorem dX10_number_27 : decode cX10_number 27 = .ok (.iconst 1, 1) := by decide +kernel
theorem dX10_number_28 : decode cX10_number 28 = .ok (.goto 4, 3) := by decide +kernel
theorem dX10_number_31 : decode cX10_number 31 = .ok (.iconst 0, 1) := by decide +kernel
theorem dX10_number_32 : decode cX10_number 32 = .ok (.ireturn, 1) := by decide +kernel
theorem dX10_readsWindow_0 : decode cX10_readsWindow 0 = .ok (.aload_n 0, 1) := by decide +kernel
theorem dX10_readsWindow_1 : decode cX10_readsWindow 1 = .ok (.iconst 1, 1) := by decide +kernel
theorem dX10_readsWindow_2 : decode cX10_readsWindow 2 = .ok (.iconst 5, 1) := by decide +kernel
theorem dX10_readsWindow_3 : decode cX10_readsWindow 3 = .ok (.invokevirtual 121, 3) := by decide +kernel
theorem dX10_readsWindow_6 : decode cX10_readsWindow 6 = .ok (.ifCond .ne 5, 3) := by decide +kernel
theorem dX10_readsWindow_9 : decode cX10_readsWindow 9 = .ok (.iconst 0, 1) := by decide +kernel
theorem dX10_readsWindow_10 : decode cX10_readsWindow 10 = .ok (.ireturn, 1) := by decide +kernel
theorem dX10_readsWindow_11 : decode cX10_readsWindow 11 = .ok (.aload_n 0, 1) := by decide +kernel
theorem dX10_readsWindow_12 : decode cX10_readsWindow 12 = .ok (.aload_n 0, 1) := by decide +kernel
theorem dX10_readsWindow_13 : decode cX10_readsWindow 13 = .ok (.getfield 105, 3) := by decide +kernel
theorem dX10_readsWindow_16 : decode cX10_readsWindow 16 = .ok (.putfield 125, 3) := by decide +kernel
theorem dX10_readsWindow_19 : decode cX10_readsWindow 19 = .ok (.aload_n 0, 1) := by decide +kernel
theorem dX10_readsWindow_20 : decode cX10_readsWindow 20 = .ok (.iconst 1, 1) := by decide +kernel
theorem dX10_readsWindow_21 : decode cX10_readsWindow 21 = .ok (.iconst 4, 1) := by decide +kernel
theorem dX10_readsWindow_22 : decode cX10_readsWindow 22 = .ok (.invokevirtual 121, 3) := by decide +kernel
theorem dX10_readsWindow_25 : decode cX10_readsWindow 25 = .ok (.ifCond .ne 5, 3) := by decide +kernel
theorem dX10_readsWindow_28 : decode cX10_readsWindow 28 = .ok (.iconst 0, 1) := by decide +kernel
theorem dX10_readsWindow_29 : decode cX10_readsWindow 29 = .ok (.ireturn, 1) := by decide +kernel
theorem dX10_readsWindow_30 : decode cX10_readsWindow 30 = .ok (.aload_n 0, 1) := by decide +kernel
theorem dX10_readsWindow_31 : decode cX10_readsWindow 31 = .ok (.aload_n 0, 1) := by decide +kernel
theorem dX10_readsWindow_32 : decode cX10_readsWindow 32 = .ok (.getfield 105, 3) := by decide +kernel
theorem dX10_readsWindow_35 : decode cX10_readsWindow 35 = .ok (.putfield 128, 3) := by decide +kernel
theorem dX10_readsWindow_38 : decode cX10_readsWindow 38 = .ok (.iconst 1, 1) := by decide +kernel
theorem dX10_readsWindow_39 : decode cX10_readsWindow 39 = .ok (.ireturn, 1) := by decide +kernel
theorem dX10_readsPane_0 : decode cX10_readsPane 0 = .ok (.aload_n 0, 1) := by decide +kernel
theorem dX10_readsPane_1 : decode cX10_readsPane 1 = .ok (.iconst 0, 1) := by decide +kernel
theorem dX10_readsPane_2 : decode cX10_readsPane 2 = .ok (.aload_n 0, 1) := by decide +kernel
theorem dX10_readsPane_3 : decode cX10_readsPane 3 = .ok (.getfield 125, 3) := by decide +kernel
theorem dX10_readsPane_6 : decode cX10_readsPane 6 = .ok (.iconst 1, 1) := by decide +kernel
theorem dX10_readsPane_7 : decode cX10_readsPane 7 = .ok (.isub, 1) := by decide +kernel
theorem dX10_readsPane_8 : decode cX10_readsPane 8 = .ok (.invokevirtual 121, 3) := by decide +kernel
theorem dX10_readsPane_11 : decode cX10_readsPane 11 = .ok (.ifCond .ne 5, 3) := by decide +kernel
theorem dX10_readsPane_14 : decode cX10_readsPane 14 = .ok (.iconst 0, 1) := by decide +kernel
theorem dX10_readsPane_15 : decode cX10_readsPane 15 = .ok (.ireturn, 1) := by decide +kernel
theorem dX10_readsPane_16 : decode cX10_readsPane 16 = .ok (.aload_n 0, 1) := by decide +kernel
theorem dX10_readsPane_17 : decode cX10_readsPane 17 = .ok (.getfield 105, 3) := by decide +kernel
theorem dX10_readsPane_20 : decode cX10_readsPane 20 = .ok (.istore_n 1, 1) := by decide +kernel
theorem dX10_readsPane_21 : decode cX10_readsPane 21 = .ok (.aload_n 0, 1) := by decide +kernel
theorem dX10_readsPane_22 : decode cX10_readsPane 22 = .ok (.iconst 0, 1) := by decide +kernel
theorem dX10_readsPane_23 : decode cX10_readsPane 23 = .ok (.aload_n 0, 1) := by decide +kernel
theorem dX10_readsPane_24 : decode cX10_readsPane 24 = .ok (.getfield 128, 3) := by decide +kernel
theorem dX10_readsPane_27 : decode cX10_readsPane 27 = .ok (.iconst 1, 1) := by decide +kernel
theorem dX10_readsPane_28 : decode cX10_readsPane 28 = .ok (.isub, 1) := by decide +kernel
theorem dX10_readsPane_29 : decode cX10_readsPane 29 = .ok (.invokevirtual 121, 3) := by decide +kernel
theorem dX10_readsPane_32 : decode cX10_readsPane 32 = .ok (.ifCond .ne 5, 3) := by decide +kernel
theorem dX10_readsPane_35 : decode cX10_readsPane 35 = .ok (.iconst 0, 1) := by decide +kernel
theorem dX10_readsPane_36 : decode cX10_readsPane 36 = .ok (.ireturn, 1) := by decide +kernel
theorem dX10_readsPane_37 : decode cX10_readsPane 37 = .ok (.aload_n 0, 1) := by decide +kernel
theorem dX10_readsPane_38 : decode cX10_readsPane 38 = .ok (.getfield 105, 3) := by decide +kernel
theorem dX10_readsPane_41 : decode cX10_readsPane 41 = .ok (.istore_n 2, 1) := by decide +kernel
theorem dX10_readsPane_42 : decode cX10_readsPane 42 = .ok (.aload_n 0, 1) := by decide +kernel
theorem dX10_readsPane_43 : decode cX10_readsPane 43 = .ok (.iconst 0, 1) := by decide +kernel
theorem dX10_readsPane_44 : decode cX10_readsPane 44 = .ok (.bipush 7, 2) := by decide +kernel
theorem dX10_readsPane_46 : decode cX10_readsPane 46 = .ok (.invokevirtual 121, 3) := by decide +kernel
theorem dX10_readsPane_49 : decode cX10_readsPane 49 = .ok (.ifCond .ne 5, 3) := by decide +kernel
theorem dX10_readsPane_52 : decode cX10_readsPane 52 = .ok (.iconst 0, 1) := by decide +kernel
theorem dX10_readsPane_53 : decode cX10_readsPane 53 = .ok (.ireturn, 1) := by decide +kernel
theorem dX10_readsPane_54 : decode cX10_readsPane 54 = .ok (.aload_n 0, 1) := by decide +kernel
theorem dX10_readsPane_55 : decode cX10_readsPane 55 = .ok (.getfield 51, 3) := by decide +kernel
theorem dX10_readsPane_58 : decode cX10_readsPane 58 = .ok (.iconst 4, 1) := by decide +kernel
theorem dX10_readsPane_59 : decode cX10_readsPane 59 = .ok (.iload_n 1, 1) := by decide +kernel
theorem dX10_readsPane_60 : decode cX10_readsPane 60 = .ok (.imul, 1) := by decide +kernel
theorem dX10_readsPane_61 : decode cX10_readsPane 61 = .ok (.iload_n 2, 1) := by decide +kernel
theorem dX10_readsPane_62 : decode cX10_readsPane 62 = .ok (.iadd, 1) := by decide +kernel
theorem dX10_readsPane_63 : decode cX10_readsPane 63 = .ok (.aload_n 0, 1) := by decide +kernel
theorem dX10_readsPane_64 : decode cX10_readsPane 64 = .ok (.getfield 105, 3) := by decide +kernel
theorem dX10_readsPane_67 : decode cX10_readsPane 67 = .ok (.iastore, 1) := by decide +kernel
theorem dX10_readsPane_68 : decode cX10_readsPane 68 = .ok (.iconst 1, 1) := by decide +kernel
theorem dX10_readsPane_69 : decode cX10_readsPane 69 = .ok (.ireturn, 1) := by decide +kernel
theorem dX10_readsSheet_0 : decode cX10_readsSheet 0 = .ok (.aload_n 0, 1) := by decide +kernel
theorem dX10_readsSheet_1 : decode cX10_readsSheet 1 = .ok (.getfield 131, 3) := by decide +kernel
theorem dX10_readsSheet_4 : decode cX10_readsSheet 4 = .ok (.bipush 8, 2) := by decide +kernel
theorem dX10_readsSheet_6 : decode cX10_readsSheet 6 = .ok (.if_icmp .eq 13, 3) := by decide +kernel
theorem dX10_readsSheet_9 : decode cX10_readsSheet 9 = .ok (.aload_n 0, 1) := by decide +kernel
theorem dX10_readsSheet_10 : decode cX10_readsSheet 10 = .ok (.iconst 0, 1) := by decide +kernel
theorem dX10_readsSheet_11 : decode cX10_readsSheet 11 = .ok (.bipush 7, 2) := by decide +kernel
theorem dX10_readsSheet_13 : decode cX10_readsSheet 13 = .ok (.invokevirtual 121, 3) := by decide +kernel
theorem dX10_readsSheet_16 : decode cX10_readsSheet 16 = .ok (.ifCond .ne 5, 3) := by decide +kernel
theorem dX10_readsSheet_19 : decode cX10_readsSheet 19 = .ok (.iconst 0, 1) := by decide +kernel
theorem dX10_readsSheet_20 : decode cX10_readsSheet 20 = .ok (.ireturn, 1) := by decide +kernel
theorem dX10_readsSheet_21 : decode cX10_readsSheet 21 = .ok (.aload_n 0, 1) := by decide +kernel
theorem dX10_readsSheet_22 : decode cX10_readsSheet 22 = .ok (.getfield 54, 3) := by decide +kernel
theorem dX10_readsSheet_25 : decode cX10_readsSheet 25 = .ok (.aload_n 0, 1) := by decide +kernel
theorem dX10_readsSheet_26 : decode cX10_readsSheet 26 = .ok (.getfield 131, 3) := by decide +kernel
theorem dX10_readsSheet_29 : decode cX10_readsSheet 29 = .ok (.aload_n 0, 1) := by decide +kernel
theorem dX10_readsSheet_30 : decode cX10_readsSheet 30 = .ok (.getfield 105, 3) := by decide +kernel
theorem dX10_readsSheet_33 : decode cX10_readsSheet 33 = .ok (.iastore, 1) := by decide +kernel
theorem dX10_readsSheet_34 : decode cX10_readsSheet 34 = .ok (.aload_n 0, 1) := by decide +kernel
theorem dX10_readsSheet_35 : decode cX10_readsSheet 35 = .ok (.dup, 1) := by decide +kernel
theorem dX10_readsSheet_36 : decode cX10_readsSheet 36 = .ok (.getfield 131, 3) := by decide +kernel
theorem dX10_readsSheet_39 : decode cX10_readsSheet 39 = .ok (.iconst 1, 1) := by decide +kernel
theorem dX10_readsSheet_40 : decode cX10_readsSheet 40 = .ok (.iadd, 1) := by decide +kernel
theorem dX10_readsSheet_41 : decode cX10_readsSheet 41 = .ok (.putfield 131, 3) := by decide +kernel
theorem dX10_readsSheet_44 : decode cX10_readsSheet 44 = .ok (.iconst 1, 1) := by decide +kernel
theorem dX10_readsSheet_45 : decode cX10_readsSheet 45 = .ok (.ireturn, 1) := by decide +kernel
theorem dX10_readsMirror_0 : decode cX10_readsMirror 0 = .ok (.aload_n 0, 1) := by decide +kernel
theorem dX10_readsMirror_1 : decode cX10_readsMirror 1 = .ok (.getfield 134, 3) := by decide +kernel
theorem dX10_readsMirror_4 : decode cX10_readsMirror 4 = .ok (.bipush (-9), 2) := by decide +kernel
theorem dX10_readsMirror_6 : decode cX10_readsMirror 6 = .ok (.if_icmp .ne 13, 3) := by decide +kernel
theorem dX10_readsMirror_9 : decode cX10_readsMirror 9 = .ok (.aload_n 0, 1) := by decide +kernel
theorem dX10_readsMirror_10 : decode cX10_readsMirror 10 = .ok (.iconst 1, 1) := by decide +kernel
theorem dX10_readsMirror_11 : decode cX10_readsMirror 11 = .ok (.bipush 12, 2) := by decide +kernel
theorem dX10_readsMirror_13 : decode cX10_readsMirror 13 = .ok (.invokevirtual 121, 3) := by decide +kernel
theorem dX10_readsMirror_16 : decode cX10_readsMirror 16 = .ok (.ifCond .ne 5, 3) := by decide +kernel
theorem dX10_readsMirror_19 : decode cX10_readsMirror 19 = .ok (.iconst 0, 1) := by decide +kernel
theorem dX10_readsMirror_20 : decode cX10_readsMirror 20 = .ok (.ireturn, 1) := by decide +kernel
theorem dX10_readsMirror_21 : decode cX10_readsMirror 21 = .ok (.aload_n 0, 1) := by decide +kernel
theorem dX10_readsMirror_22 : decode cX10_readsMirror 22 = .ok (.aload_n 0, 1) := by decide +kernel
theorem dX10_readsMirror_23 : decode cX10_readsMirror 23 = .ok (.getfield 105, 3) := by decide +kernel
theorem dX10_readsMirror_26 : decode cX10_readsMirror 26 = .ok (.putfield 134, 3) := by decide +kernel
theorem dX10_readsMirror_29 : decode cX10_readsMirror 29 = .ok (.iconst 1, 1) := by decide +kernel
theorem dX10_readsMirror_30 : decode cX10_readsMirror 30 = .ok (.ireturn, 1) := by decide +kernel
theorem dX10_readsSeason_0 : decode cX10_readsSeason 0 = .ok (.aload_n 0, 1) := by decide +kernel
theorem dX10_readsSeason_1 : decode cX10_readsSeason 1 = .ok (.getfield 137, 3) := by decide +kernel
theorem dX10_readsSeason_4 : decode cX10_readsSeason 4 = .ok (.bipush (-9), 2) := by decide +kernel
theorem dX10_readsSeason_6 : decode cX10_readsSeason 6 = .ok (.if_icmp .ne 12, 3) := by decide +kernel
theorem dX10_readsSeason_9 : decode cX10_readsSeason 9 = .ok (.aload_n 0, 1) := by decide +kernel
theorem dX10_readsSeason_10 : decode cX10_readsSeason 10 = .ok (.iconst 0, 1) := by decide +kernel
theorem dX10_readsSeason_11 : decode cX10_readsSeason 11 = .ok (.iconst 3, 1) := by decide +kernel
theorem dX10_readsSeason_12 : decode cX10_readsSeason 12 = .ok (.invokevirtual 121, 3) := by decide +kernel
theorem dX10_readsSeason_15 : decode cX10_readsSeason 15 = .ok (.ifCond .ne 5, 3) := by decide +kernel
theorem dX10_readsSeason_18 : decode cX10_readsSeason 18 = .ok (.iconst 0, 1) := by decide +kernel
theorem dX10_readsSeason_19 : decode cX10_readsSeason 19 = .ok (.ireturn, 1) := by decide +kernel
theorem dX10_readsSeason_20 : decode cX10_readsSeason 20 = .ok (.aload_n 0, 1) := by decide +kernel
theorem dX10_readsSeason_21 : decode cX10_readsSeason 21 = .ok (.aload_n 0, 1) := by decide +kernel
theorem dX10_readsSeason_22 : decode cX10_readsSeason 22 = .ok (.getfield 105, 3) := by decide +kernel
theorem dX10_readsSeason_25 : decode cX10_readsSeason 25 = .ok (.putfield 137, 3) := by decide +kernel
theorem dX10_readsSeason_28 : decode cX10_readsSeason 28 = .ok (.iconst 1, 1) := by decide +kernel
theorem dX10_readsSeason_29 : decode cX10_readsSeason 29 = .ok (.ireturn, 1) := by decide +kernel
theorem dX10_readsItem_0 : decode cX10_readsItem 0 = .ok (.aload_n 0, 1) := by decide +kernel
theorem dX10_readsItem_1 : decode cX10_readsItem 1 = .ok (.getfield 102, 3) := by decide +kernel
theorem dX10_readsItem_4 : decode cX10_readsItem 4 = .ok (.lookupswitch 89 #[(103, 52), (109, 79), (112, 69), (115, 74), (121, 84)], 52) := by decide +kernel
theorem dX10_readsItem_56 : decode cX10_readsItem 56 = .ok (.iload_n 1, 1) := by decide +kernel
theorem dX10_readsItem_57 : decode cX10_readsItem 57 = .ok (.ifCond .eq 14, 3) := by decide +kernel
theorem dX10_readsItem_60 : decode cX10_readsItem 60 = .ok (.aload_n 0, 1) := by decide +kernel
theorem dX10_readsItem_61 : decode cX10_readsItem 61 = .ok (.invokevirtual 140, 3) := by decide +kernel
theorem dX10_readsItem_64 : decode cX10_readsItem 64 = .ok (.ifCond .eq 7, 3) := by decide +kernel
theorem dX10_readsItem_67 : decode cX10_readsItem 67 = .ok (.iconst 1, 1) := by decide +kernel
theorem dX10_readsItem_68 : decode cX10_readsItem 68 = .ok (.goto 4, 3) := by decide +kernel
theorem dX10_readsItem_71 : decode cX10_readsItem 71 = .ok (.iconst 0, 1) := by decide +kernel
theorem dX10_readsItem_72 : decode cX10_readsItem 72 = .ok (.ireturn, 1) := by decide +kernel
theorem dX10_readsItem_73 : decode cX10_readsItem 73 = .ok (.aload_n 0, 1) := by decide +kernel
theorem dX10_readsItem_74 : decode cX10_readsItem 74 = .ok (.invokevirtual 143, 3) := by decide +kernel
theorem dX10_readsItem_77 : decode cX10_readsItem 77 = .ok (.ireturn, 1) := by decide +kernel
theorem dX10_readsItem_78 : decode cX10_readsItem 78 = .ok (.aload_n 0, 1) := by decide +kernel
theorem dX10_readsItem_79 : decode cX10_readsItem 79 = .ok (.invokevirtual 146, 3) := by decide +kernel
theorem dX10_readsItem_82 : decode cX10_readsItem 82 = .ok (.ireturn, 1) := by decide +kernel
theorem dX10_readsItem_83 : decode cX10_readsItem 83 = .ok (.aload_n 0, 1) := by decide +kernel
theorem dX10_readsItem_84 : decode cX10_readsItem 84 = .ok (.invokevirtual 149, 3) := by decide +kernel
theorem dX10_readsItem_87 : decode cX10_readsItem 87 = .ok (.ireturn, 1) := by decide +kernel
theorem dX10_readsItem_88 : decode cX10_readsItem 88 = .ok (.aload_n 0, 1) := by decide +kernel
theorem dX10_readsItem_89 : decode cX10_readsItem 89 = .ok (.invokevirtual 152, 3) := by decide +kernel
theorem dX10_readsItem_92 : decode cX10_readsItem 92 = .ok (.ireturn, 1) := by decide +kernel
theorem dX10_readsItem_93 : decode cX10_readsItem 93 = .ok (.iconst 0, 1) := by decide +kernel
theorem dX10_readsItem_94 : decode cX10_readsItem 94 = .ok (.ireturn, 1) := by decide +kernel
theorem dX10_window_0 : decode cX10_window 0 = .ok (.aload_n 0, 1) := by decide +kernel
theorem dX10_window_1 : decode cX10_window 1 = .ok (.iconst 5, 1) := by decide +kernel
theorem dX10_window_2 : decode cX10_window 2 = .ok (.putfield 125, 3) := by decide +kernel
theorem dX10_window_5 : decode cX10_window 5 = .ok (.aload_n 0, 1) := by decide +kernel
theorem dX10_window_6 : decode cX10_window 6 = .ok (.iconst 4, 1) := by decide +kernel
theorem dX10_window_7 : decode cX10_window 7 = .ok (.putfield 128, 3) := by decide +kernel
theorem dX10_window_10 : decode cX10_window 10 = .ok (.iconst 0, 1) := by decide +kernel
theorem dX10_window_11 : decode cX10_window 11 = .ok (.istore_n 1, 1) := by decide +kernel
theorem dX10_window_12 : decode cX10_window 12 = .ok (.iload_n 1, 1) := by decide +kernel
theorem dX10_window_13 : decode cX10_window 13 = .ok (.bipush 20, 2) := by decide +kernel
theorem dX10_window_15 : decode cX10_window 15 = .ok (.if_icmp .ge 17, 3) := by decide +kernel
theorem dX10_window_18 : decode cX10_window 18 = .ok (.aload_n 0, 1) := by decide +kernel
theorem dX10_window_19 : decode cX10_window 19 = .ok (.getfield 51, 3) := by decide +kernel
theorem dX10_window_22 : decode cX10_window 22 = .ok (.iload_n 1, 1) := by decide +kernel
theorem dX10_window_23 : decode cX10_window 23 = .ok (.bipush 7, 2) := by decide +kernel
theorem dX10_window_25 : decode cX10_window 25 = .ok (.iastore, 1) := by decide +kernel
theorem dX10_window_26 : decode cX10_window 26 = .ok (.iinc 1 1, 3) := by decide +kernel
theorem dX10_window_29 : decode cX10_window 29 = .ok (.goto (-17), 3) := by decide +kernel
theorem dX10_window_32 : decode cX10_window 32 = .ok (.aload_n 0, 1) := by decide +kernel
theorem dX10_window_33 : decode cX10_window 33 = .ok (.iconst 0, 1) := by decide +kernel
theorem dX10_window_34 : decode cX10_window 34 = .ok (.putfield 131, 3) := by decide +kernel
theorem dX10_window_37 : decode cX10_window 37 = .ok (.aload_n 0, 1) := by decide +kernel
theorem dX10_window_38 : decode cX10_window 38 = .ok (.bipush (-9), 2) := by decide +kernel
theorem dX10_window_40 : decode cX10_window 40 = .ok (.putfield 134, 3) := by decide +kernel
theorem dX10_window_43 : decode cX10_window 43 = .ok (.aload_n 0, 1) := by decide +kernel
theorem dX10_window_44 : decode cX10_window 44 = .ok (.bipush (-9), 2) := by decide +kernel
theorem dX10_window_46 : decode cX10_window 46 = .ok (.putfield 137, 3) := by decide +kernel
theorem dX10_window_49 : decode cX10_window 49 = .ok (.aload_n 0, 1) := by decide +kernel
theorem dX10_window_50 : decode cX10_window 50 = .ok (.iconst 0, 1) := by decide +kernel
theorem dX10_window_51 : decode cX10_window 51 = .ok (.putfield 88, 3) := by decide +kernel
theorem dX10_window_54 : decode cX10_window 54 = .ok (.iconst 0, 1) := by decide +kernel
theorem dX10_window_55 : decode cX10_window 55 = .ok (.istore_n 1, 1) := by decide +kernel
theorem dX10_window_56 : decode cX10_window 56 = .ok (.aload_n 0, 1) := by decide +kernel
theorem dX10_window_57 : decode cX10_window 57 = .ok (.invokevirtual 118, 3) := by decide +kernel
theorem dX10_window_60 : decode cX10_window 60 = .ok (.aload_n 0, 1) := by decide +kernel
theorem dX10_window_61 : decode cX10_window 61 = .ok (.getfield 108, 3) := by decide +kernel
theorem dX10_window_64 : decode cX10_window 64 = .ok (.ifCond .eq 65, 3) := by decide +kernel
theorem dX10_window_67 : decode cX10_window 67 = .ok (.aload_n 0, 1) := by decide +kernel
theorem dX10_window_68 : decode cX10_window 68 = .ok (.getfield 108, 3) := by decide +kernel
theorem dX10_window_71 : decode cX10_window 71 = .ok (.iconst 1, 1) := by decide +kernel
theorem dX10_window_72 : decode cX10_window 72 = .ok (.if_icmp .ne 19, 3) := by decide +kernel
theorem dX10_window_75 : decode cX10_window 75 = .ok (.aload_n 0, 1) := by decide +kernel
theorem dX10_window_76 : decode cX10_window 76 = .ok (.iload_n 1, 1) := by decide +kernel
theorem dX10_window_77 : decode cX10_window 77 = .ok (.ifCond .ne 7, 3) := by decide +kernel
theorem dX10_window_80 : decode cX10_window 80 = .ok (.iconst 1, 1) := by decide +kernel
theorem dX10_window_81 : decode cX10_window 81 = .ok (.goto 4, 3) := by decide +kernel
theorem dX10_window_84 : decode cX10_window 84 = .ok (.iconst 0, 1) := by decide +kernel
theorem dX10_window_85 : decode cX10_window 85 = .ok (.invokevirtual 155, 3) := by decide +kernel
theorem dX10_window_88 : decode cX10_window 88 = .ok (.ifCond .ne 11, 3) := by decide +kernel
theorem dX10_window_91 : decode cX10_window 91 = .ok (.bipush (-10), 2) := by decide +kernel
theorem dX10_window_93 : decode cX10_window 93 = .ok (.aload_n 0, 1) := by decide +kernel
theorem dX10_window_94 : decode cX10_window 94 = .ok (.getfield 99, 3) := by decide +kernel
theorem dX10_window_97 : decode cX10_window 97 = .ok (.isub, 1) := by decide +kernel
theorem dX10_window_98 : decode cX10_window 98 = .ok (.ireturn, 1) := by decide +kernel
theorem dX10_window_99 : decode cX10_window 99 = .ok (.aload_n 0, 1) := by decide +kernel
theorem dX10_window_100 : decode cX10_window 100 = .ok (.invokevirtual 118, 3) := by decide +kernel
theorem dX10_window_103 : decode cX10_window 103 = .ok (.aload_n 0, 1) := by decide +kernel
theorem dX10_window_104 : decode cX10_window 104 = .ok (.getfield 108, 3) := by decide +kernel
theorem dX10_window_107 : decode cX10_window 107 = .ok (.iconst 3, 1) := by decide +kernel
theorem dX10_window_108 : decode cX10_window 108 = .ok (.if_icmp .eq 11, 3) := by decide +kernel
theorem dX10_window_111 : decode cX10_window 111 = .ok (.bipush (-10), 2) := by decide +kernel
theorem dX10_window_113 : decode cX10_window 113 = .ok (.aload_n 0, 1) := by decide +kernel
theorem dX10_window_114 : decode cX10_window 114 = .ok (.getfield 99, 3) := by decide +kernel
theorem dX10_window_117 : decode cX10_window 117 = .ok (.isub, 1) := by decide +kernel
theorem dX10_window_118 : decode cX10_window 118 = .ok (.ireturn, 1) := by decide +kernel
theorem dX10_window_119 : decode cX10_window 119 = .ok (.iinc 1 1, 3) := by decide +kernel
theorem dX10_window_122 : decode cX10_window 122 = .ok (.aload_n 0, 1) := by decide +kernel
theorem dX10_window_123 : decode cX10_window 123 = .ok (.invokevirtual 118, 3) := by decide +kernel
theorem dX10_window_126 : decode cX10_window 126 = .ok (.goto (-66), 3) := by decide +kernel
theorem dX10_window_129 : decode cX10_window 129 = .ok (.aload_n 0, 1) := by decide +kernel
theorem dX10_window_130 : decode cX10_window 130 = .ok (.iconst 0, 1) := by decide +kernel
theorem dX10_window_131 : decode cX10_window 131 = .ok (.putfield 85, 3) := by decide +kernel
theorem dX10_window_134 : decode cX10_window 134 = .ok (.aload_n 0, 1) := by decide +kernel
theorem dX10_window_135 : decode cX10_window 135 = .ok (.aload_n 0, 1) := by decide +kernel
theorem dX10_window_136 : decode cX10_window 136 = .ok (.getfield 125, 3) := by decide +kernel
theorem dX10_window_139 : decode cX10_window 139 = .ok (.putfield 7, 3) := by decide +kernel
theorem dX10_window_142 : decode cX10_window 142 = .ok (.aload_n 0, 1) := by decide +kernel
theorem dX10_window_143 : decode cX10_window 143 = .ok (.aload_n 0, 1) := by decide +kernel
theorem dX10_window_144 : decode cX10_window 144 = .ok (.getfield 128, 3) := by decide +kernel
theorem dX10_window_147 : decode cX10_window 147 = .ok (.putfield 13, 3) := by decide +kernel
theorem dX10_window_150 : decode cX10_window 150 = .ok (.aload_n 0, 1) := by decide +kernel
theorem dX10_window_151 : decode cX10_window 151 = .ok (.aload_n 0, 1) := by decide +kernel
theorem dX10_window_152 : decode cX10_window 152 = .ok (.getfield 131, 3) := by decide +kernel
theorem dX10_window_155 : decode cX10_window 155 = .ok (.putfield 159, 3) := by decide +kernel
theorem dX10_window_158 : decode cX10_window 158 = .ok (.aload_n 0, 1) := by decide +kernel
theorem dX10_window_159 : decode cX10_window 159 = .ok (.getfield 51, 3) := by decide +kernel
theorem dX10_window_162 : decode cX10_window 162 = .ok (.iconst 0, 1) := by decide +kernel
theorem dX10_window_163 : decode cX10_window 163 = .ok (.aload_n 0, 1) := by decide +kernel
theorem dX10_window_164 : decode cX10_window 164 = .ok (.getfield 16, 3) := by decide +kernel
theorem dX10_window_167 : decode cX10_window 167 = .ok (.iconst 0, 1) := by decide +kernel
theorem dX10_window_168 : decode cX10_window 168 = .ok (.bipush 20, 2) := by decide +kernel
theorem dX10_window_170 : decode cX10_window 170 = .ok (.invokestatic 162, 3) := by decide +kernel
theorem dX10_window_173 : decode cX10_window 173 = .ok (.aload_n 0, 1) := by decide +kernel
theorem dX10_window_174 : decode cX10_window 174 = .ok (.getfield 54, 3) := by decide +kernel
theorem dX10_window_177 : decode cX10_window 177 = .ok (.iconst 0, 1) := by decide +kernel
theorem dX10_window_178 : decode cX10_window 178 = .ok (.aload_n 0, 1) := by decide +kernel
theorem dX10_window_179 : decode cX10_window 179 = .ok (.getfield 20, 3) := by decide +kernel
theorem dX10_window_182 : decode cX10_window 182 = .ok (.iconst 0, 1) := by decide +kernel
theorem dX10_window_183 : decode cX10_window 183 = .ok (.bipush 8, 2) := by decide +kernel
theorem dX10_window_185 : decode cX10_window 185 = .ok (.invokestatic 162, 3) := by decide +kernel
theorem dX10_window_188 : decode cX10_window 188 = .ok (.aload_n 0, 1) := by decide +kernel
theorem dX10_window_189 : decode cX10_window 189 = .ok (.aload_n 0, 1) := by decide +kernel
theorem dX10_window_190 : decode cX10_window 190 = .ok (.getfield 134, 3) := by decide +kernel
theorem dX10_window_193 : decode cX10_window 193 = .ok (.bipush (-9), 2) := by decide +kernel
theorem dX10_window_195 : decode cX10_window 195 = .ok (.if_icmp .ne 8, 3) := by decide +kernel
theorem dX10_window_198 : decode cX10_window 198 = .ok (.bipush 12, 2) := by decide +kernel
theorem dX10_window_200 : decode cX10_window 200 = .ok (.goto 7, 3) := by decide +kernel
theorem dX10_window_203 : decode cX10_window 203 = .ok (.aload_n 0, 1) := by decide +kernel
theorem dX10_window_204 : decode cX10_window 204 = .ok (.getfield 134, 3) := by decide +kernel
theorem dX10_window_207 : decode cX10_window 207 = .ok (.aload_n 0, 1) := by decide +kernel
theorem dX10_window_208 : decode cX10_window 208 = .ok (.getfield 137, 3) := by decide +kernel
theorem dX10_window_211 : decode cX10_window 211 = .ok (.bipush (-9), 2) := by decide +kernel
theorem dX10_window_213 : decode cX10_window 213 = .ok (.if_icmp .ne 7, 3) := by decide +kernel
theorem dX10_window_216 : decode cX10_window 216 = .ok (.iconst 0, 1) := by decide +kernel
theorem dX10_window_217 : decode cX10_window 217 = .ok (.goto 7, 3) := by decide +kernel
theorem dX10_window_220 : decode cX10_window 220 = .ok (.aload_n 0, 1) := by decide +kernel
theorem dX10_window_221 : decode cX10_window 221 = .ok (.getfield 137, 3) := by decide +kernel
theorem dX10_window_224 : decode cX10_window 224 = .ok (.invokevirtual 69, 3) := by decide +kernel
theorem dX10_window_227 : decode cX10_window 227 = .ok (.iload_n 1, 1) := by decide +kernel
theorem dX10_window_228 : decode cX10_window 228 = .ok (.ireturn, 1) := by decide +kernel
theorem dX10_isPane_0 : decode cX10_isPane 0 = .ok (.iload_n 1, 1) := by decide +kernel
theorem dX10_isPane_1 : decode cX10_isPane 1 = .ok (.i2l, 1) := by decide +kernel
theorem dX10_isPane_2 : decode cX10_isPane 2 = .ok (.lconst 0, 1) := by decide +kernel
theorem dX10_isPane_3 : decode cX10_isPane 3 = .ok (.aload_n 0, 1) := by decide +kernel
theorem dX10_isPane_4 : decode cX10_isPane 4 = .ok (.getfield 7, 3) := by decide +kernel
theorem dX10_isPane_7 : decode cX10_isPane 7 = .ok (.iconst 1, 1) := by decide +kernel
theorem dX10_isPane_8 : decode cX10_isPane 8 = .ok (.isub, 1) := by decide +kernel
theorem dX10_isPane_9 : decode cX10_isPane 9 = .ok (.i2l, 1) := by decide +kernel
theorem dX10_isPane_10 : decode cX10_isPane 10 = .ok (.invokestatic 81, 3) := by decide +kernel
theorem dX10_isPane_13 : decode cX10_isPane 13 = .ok (.ifCond .eq 23, 3) := by decide +kernel
theorem dX10_isPane_16 : decode cX10_isPane 16 = .ok (.iload_n 2, 1) := by decide +kernel
theorem dX10_isPane_17 : decode cX10_isPane 17 = .ok (.i2l, 1) := by decide +kernel
theorem dX10_isPane_18 : decode cX10_isPane 18 = .ok (.lconst 0, 1) := by decide +kernel
theorem dX10_isPane_19 : decode cX10_isPane 19 = .ok (.aload_n 0, 1) := by decide +kernel
theorem dX10_isPane_20 : decode cX10_isPane 20 = .ok (.getfield 13, 3) := by decide +kernel
theorem dX10_isPane_23 : decode cX10_isPane 23 = .ok (.iconst 1, 1) := by decide +kernel
theorem dX10_isPane_24 : decode cX10_isPane 24 = .ok (.isub, 1) := by decide +kernel
theorem dX10_isPane_25 : decode cX10_isPane 25 = .ok (.i2l, 1) := by decide +kernel
theorem dX10_isPane_26 : decode cX10_isPane 26 = .ok (.invokestatic 81, 3) := by decide +kernel
theorem dX10_isPane_29 : decode cX10_isPane 29 = .ok (.ifCond .eq 7, 3) := by decide +kernel
theorem dX10_isPane_32 : decode cX10_isPane 32 = .ok (.iconst 1, 1) := by decide +kernel
theorem dX10_isPane_33 : decode cX10_isPane 33 = .ok (.goto 4, 3) := by decide +kernel
theorem dX10_isPane_36 : decode cX10_isPane 36 = .ok (.iconst 0, 1) := by decide +kernel
theorem dX10_isPane_37 : decode cX10_isPane 37 = .ok (.ireturn, 1) := by decide +kernel
theorem dX10_isSheet_0 : decode cX10_isSheet 0 = .ok (.iload_n 1, 1) := by decide +kernel
theorem dX10_isSheet_1 : decode cX10_isSheet 1 = .ok (.i2l, 1) := by decide +kernel
theorem dX10_isSheet_2 : decode cX10_isSheet 2 = .ok (.lconst 0, 1) := by decide +kernel
theorem dX10_isSheet_3 : decode cX10_isSheet 3 = .ok (.aload_n 0, 1) := by decide +kernel
theorem dX10_isSheet_4 : decode cX10_isSheet 4 = .ok (.getfield 159, 3) := by decide +kernel
theorem dX10_isSheet_7 : decode cX10_isSheet 7 = .ok (.iconst 1, 1) := by decide +kernel
theorem dX10_isSheet_8 : decode cX10_isSheet 8 = .ok (.isub, 1) := by decide +kernel
theorem dX10_isSheet_9 : decode cX10_isSheet 9 = .ok (.i2l, 1) := by decide +kernel
theorem dX10_isSheet_10 : decode cX10_isSheet 10 = .ok (.invokestatic 81, 3) := by decide +kernel
theorem dX10_isSheet_13 : decode cX10_isSheet 13 = .ok (.ireturn, 1) := by decide +kernel
theorem dX10_isTile_0 : decode cX10_isTile 0 = .ok (.iload_n 0, 1) := by decide +kernel
theorem dX10_isTile_1 : decode cX10_isTile 1 = .ok (.i2l, 1) := by decide +kernel
theorem dX10_isTile_2 : decode cX10_isTile 2 = .ok (.lconst 0, 1) := by decide +kernel
theorem dX10_isTile_3 : decode cX10_isTile 3 = .ok (.ldc2_w 166, 3) := by decide +kernel
theorem dX10_isTile_6 : decode cX10_isTile 6 = .ok (.invokestatic 81, 3) := by decide +kernel
theorem dX10_isTile_9 : decode cX10_isTile 9 = .ok (.ifCond .eq 19, 3) := by decide +kernel
theorem dX10_isTile_12 : decode cX10_isTile 12 = .ok (.iload_n 1, 1) := by decide +kernel
theorem dX10_isTile_13 : decode cX10_isTile 13 = .ok (.i2l, 1) := by decide +kernel
theorem dX10_isTile_14 : decode cX10_isTile 14 = .ok (.lconst 0, 1) := by decide +kernel
theorem dX10_isTile_15 : decode cX10_isTile 15 = .ok (.ldc2_w 168, 3) := by decide +kernel
theorem dX10_isTile_18 : decode cX10_isTile 18 = .ok (.invokestatic 81, 3) := by decide +kernel
theorem dX10_isTile_21 : decode cX10_isTile 21 = .ok (.ifCond .eq 7, 3) := by decide +kernel
theorem dX10_isTile_24 : decode cX10_isTile 24 = .ok (.iconst 1, 1) := by decide +kernel
theorem dX10_isTile_25 : decode cX10_isTile 25 = .ok (.goto 4, 3) := by decide +kernel
theorem dX10_isTile_28 : decode cX10_isTile 28 = .ok (.iconst 0, 1) := by decide +kernel
theorem dX10_isTile_29 : decode cX10_isTile 29 = .ok (.ireturn, 1) := by decide +kernel
theorem dX10_isHour_0 : decode cX10_isHour 0 = .ok (.iload_n 0, 1) := by decide +kernel
theorem dX10_isHour_1 : decode cX10_isHour 1 = .ok (.i2l, 1) := by decide +kernel
theorem dX10_isHour_2 : decode cX10_isHour 2 = .ok (.lconst 0, 1) := by decide +kernel
theorem dX10_isHour_3 : decode cX10_isHour 3 = .ok (.ldc2_w 170, 3) := by decide +kernel
theorem dX10_isHour_6 : decode cX10_isHour 6 = .ok (.invokestatic 81, 3) := by decide +kernel
theorem dX10_isHour_9 : decode cX10_isHour 9 = .ok (.ireturn, 1) := by decide +kernel
theorem dX10_isColour_0 : decode cX10_isColour 0 = .ok (.iload_n 0, 1) := by decide +kernel
theorem dX10_isColour_1 : decode cX10_isColour 1 = .ok (.i2l, 1) := by decide +kernel
theorem dX10_isColour_2 : decode cX10_isColour 2 = .ok (.lconst 0, 1) := by decide +kernel
theorem dX10_isColour_3 : decode cX10_isColour 3 = .ok (.ldc2_w 170, 3) := by decide +kernel
theorem dX10_isColour_6 : decode cX10_isColour 6 = .ok (.invokestatic 81, 3) := by decide +kernel
theorem dX10_isColour_9 : decode cX10_isColour 9 = .ok (.ireturn, 1) := by decide +kernel
theorem dX10_sheetsAt_0 : decode cX10_sheetsAt 0 = .ok (.iconst 0, 1) := by decide +kernel
theorem dX10_sheetsAt_1 : decode cX10_sheetsAt 1 = .ok (.istore_n 3, 1) := by decide +kernel
theorem dX10_sheetsAt_2 : decode cX10_sheetsAt 2 = .ok (.iconst 0, 1) := by decide +kernel
theorem dX10_sheetsAt_3 : decode cX10_sheetsAt 3 = .ok (.istore 4, 2) := by decide +kernel
theorem dX10_sheetsAt_5 : decode cX10_sheetsAt 5 = .ok (.iload 4, 2) := by decide +kernel
theorem dX10_sheetsAt_7 : decode cX10_sheetsAt 7 = .ok (.aload_n 0, 1) := by decide +kernel
theorem dX10_sheetsAt_8 : decode cX10_sheetsAt 8 = .ok (.getfield 159, 3) := by decide +kernel
theorem dX10_sheetsAt_11 : decode cX10_sheetsAt 11 = .ok (.if_icmp .ge 30, 3) := by decide +kernel
theorem dX10_sheetsAt_14 : decode cX10_sheetsAt 14 = .ok (.iload_n 3, 1) := by decide +kernel
theorem dX10_sheetsAt_15 : decode cX10_sheetsAt 15 = .ok (.aload_n 1, 1) := by decide +kernel
theorem dX10_sheetsAt_16 : decode cX10_sheetsAt 16 = .ok (.iconst 0, 1) := by decide +kernel
theorem dX10_sheetsAt_17 : decode cX10_sheetsAt 17 = .ok (.iload 4, 2) := by decide +kernel
theorem dX10_sheetsAt_19 : decode cX10_sheetsAt 19 = .ok (.iadd, 1) := by decide +kernel
theorem dX10_sheetsAt_20 : decode cX10_sheetsAt 20 = .ok (.iaload, 1) := by decide +kernel
theorem dX10_sheetsAt_21 : decode cX10_sheetsAt 21 = .ok (.iload_n 2, 1) := by decide +kernel
theorem dX10_sheetsAt_22 : decode cX10_sheetsAt 22 = .ok (.if_icmp .ne 10, 3) := by decide +kernel
theorem dX10_sheetsAt_25 : decode cX10_sheetsAt 25 = .ok (.iconst 1, 1) := by decide +kernel
theorem dX10_sheetsAt_26 : decode cX10_sheetsAt 26 = .ok (.iload 4, 2) := by decide +kernel
theorem dX10_sheetsAt_28 : decode cX10_sheetsAt 28 = .ok (.ishl, 1) := by decide +kernel
theorem dX10_sheetsAt_29 : decode cX10_sheetsAt 29 = .ok (.goto 4, 3) := by decide +kernel
theorem dX10_sheetsAt_32 : decode cX10_sheetsAt 32 = .ok (.iconst 0, 1) := by decide +kernel
theorem dX10_sheetsAt_33 : decode cX10_sheetsAt 33 = .ok (.ior, 1) := by decide +kernel
theorem dX10_sheetsAt_34 : decode cX10_sheetsAt 34 = .ok (.istore_n 3, 1) := by decide +kernel
theorem dX10_sheetsAt_35 : decode cX10_sheetsAt 35 = .ok (.iinc 4 1, 3) := by decide +kernel
theorem dX10_sheetsAt_38 : decode cX10_sheetsAt 38 = .ok (.goto (-33), 3) := by decide +kernel
theorem dX10_sheetsAt_41 : decode cX10_sheetsAt 41 = .ok (.iload_n 3, 1) := by decide +kernel
theorem dX10_sheetsAt_42 : decode cX10_sheetsAt 42 = .ok (.ireturn, 1) := by decide +kernel
theorem dX10_through_0 : decode cX10_through 0 = .ok (.bipush 7, 2) := by decide +kernel
theorem dX10_through_2 : decode cX10_through 2 = .ok (.istore_n 2, 1) := by decide +kernel
theorem dX10_through_3 : decode cX10_through 3 = .ok (.iconst 0, 1) := by decide +kernel
theorem dX10_through_4 : decode cX10_through 4 = .ok (.istore_n 3, 1) := by decide +kernel
theorem dX10_through_5 : decode cX10_through 5 = .ok (.iload_n 3, 1) := by decide +kernel
theorem dX10_through_6 : decode cX10_through 6 = .ok (.aload_n 0, 1) := by decide +kernel
theorem dX10_through_7 : decode cX10_through 7 = .ok (.getfield 159, 3) := by decide +kernel
theorem dX10_through_10 : decode cX10_through 10 = .ok (.if_icmp .ge 31, 3) := by decide +kernel
theorem dX10_through_13 : decode cX10_through 13 = .ok (.iload_n 2, 1) := by decide +kernel
theorem dX10_through_14 : decode cX10_through 14 = .ok (.iload_n 1, 1) := by decide +kernel
theorem dX10_through_15 : decode cX10_through 15 = .ok (.iload_n 3, 1) := by decide +kernel
theorem dX10_through_16 : decode cX10_through 16 = .ok (.invokestatic 172, 3) := by decide +kernel
theorem dX10_through_19 : decode cX10_through 19 = .ok (.ifCond .eq 12, 3) := by decide +kernel
theorem dX10_through_22 : decode cX10_through 22 = .ok (.aload_n 0, 1) := by decide +kernel
theorem dX10_through_23 : decode cX10_through 23 = .ok (.getfield 20, 3) := by decide +kernel
theorem dX10_through_26 : decode cX10_through 26 = .ok (.iload_n 3, 1) := by decide +kernel
theorem dX10_through_27 : decode cX10_through 27 = .ok (.iaload, 1) := by decide +kernel
theorem dX10_through_28 : decode cX10_through 28 = .ok (.goto 5, 3) := by decide +kernel
theorem dX10_through_31 : decode cX10_through 31 = .ok (.bipush 7, 2) := by decide +kernel
theorem dX10_through_33 : decode cX10_through 33 = .ok (.iand, 1) := by decide +kernel
theorem dX10_through_34 : decode cX10_through 34 = .ok (.istore_n 2, 1) := by decide +kernel
theorem dX10_through_35 : decode cX10_through 35 = .ok (.iinc 3 1, 3) := by decide +kernel
theorem dX10_through_38 : decode cX10_through 38 = .ok (.goto (-33), 3) := by decide +kernel
theorem dX10_through_41 : decode cX10_through 41 = .ok (.iload_n 2, 1) := by decide +kernel
theorem dX10_through_42 : decode cX10_through 42 = .ok (.ireturn, 1) := by decide +kernel
theorem dX10_lets_0 : decode cX10_lets 0 = .ok (.aload_n 1, 1) := by decide +kernel
theorem dX10_lets_1 : decode cX10_lets 1 = .ok (.bipush 8, 2) := by decide +kernel
theorem dX10_lets_3 : decode cX10_lets 3 = .ok (.iaload, 1) := by decide +kernel
theorem dX10_lets_4 : decode cX10_lets 4 = .ok (.iload_n 2, 1) := by decide +kernel
theorem dX10_lets_5 : decode cX10_lets 5 = .ok (.invokestatic 172, 3) := by decide +kernel
theorem dX10_lets_8 : decode cX10_lets 8 = .ok (.ifCond .eq 8, 3) := by decide +kernel
theorem dX10_lets_11 : decode cX10_lets 11 = .ok (.bipush 7, 2) := by decide +kernel
theorem dX10_lets_13 : decode cX10_lets 13 = .ok (.goto 20, 3) := by decide +kernel
theorem dX10_lets_16 : decode cX10_lets 16 = .ok (.aload_n 0, 1) := by decide +kernel
theorem dX10_lets_17 : decode cX10_lets 17 = .ok (.getfield 16, 3) := by decide +kernel
theorem dX10_lets_20 : decode cX10_lets 20 = .ok (.iload_n 2, 1) := by decide +kernel
theorem dX10_lets_21 : decode cX10_lets 21 = .ok (.iaload, 1) := by decide +kernel
theorem dX10_lets_22 : decode cX10_lets 22 = .ok (.aload_n 0, 1) := by decide +kernel
theorem dX10_lets_23 : decode cX10_lets 23 = .ok (.aload_n 0, 1) := by decide +kernel
theorem dX10_lets_24 : decode cX10_lets 24 = .ok (.aload_n 1, 1) := by decide +kernel
theorem dX10_lets_25 : decode cX10_lets 25 = .ok (.iload_n 2, 1) := by decide +kernel
theorem dX10_lets_26 : decode cX10_lets 26 = .ok (.invokevirtual 175, 3) := by decide +kernel
theorem dX10_lets_29 : decode cX10_lets 29 = .ok (.invokevirtual 179, 3) := by decide +kernel
theorem dX10_lets_32 : decode cX10_lets 32 = .ok (.iand, 1) := by decide +kernel
theorem dX10_lets_33 : decode cX10_lets 33 = .ok (.ireturn, 1) := by decide +kernel
theorem dX10_paneAt_0 : decode cX10_paneAt 0 = .ok (.iload 5, 2) := by decide +kernel
theorem dX10_paneAt_2 : decode cX10_paneAt 2 = .ok (.ifCond .eq 16, 3) := by decide +kernel
theorem dX10_paneAt_5 : decode cX10_paneAt 5 = .ok (.iconst 2, 1) := by decide +kernel
theorem dX10_paneAt_6 : decode cX10_paneAt 6 = .ok (.aload_n 1, 1) := by decide +kernel
theorem dX10_paneAt_7 : decode cX10_paneAt 7 = .ok (.bipush 9, 2) := by decide +kernel
theorem dX10_paneAt_9 : decode cX10_paneAt 9 = .ok (.iaload, 1) := by decide +kernel
theorem dX10_paneAt_10 : decode cX10_paneAt 10 = .ok (.imul, 1) := by decide +kernel
theorem dX10_paneAt_11 : decode cX10_paneAt 11 = .ok (.iconst 1, 1) := by decide +kernel
theorem dX10_paneAt_12 : decode cX10_paneAt 12 = .ok (.isub, 1) := by decide +kernel
theorem dX10_paneAt_13 : decode cX10_paneAt 13 = .ok (.iload_n 2, 1) := by decide +kernel
theorem dX10_paneAt_14 : decode cX10_paneAt 14 = .ok (.isub, 1) := by decide +kernel
theorem dX10_paneAt_15 : decode cX10_paneAt 15 = .ok (.goto 4, 3) := by decide +kernel
theorem dX10_paneAt_18 : decode cX10_paneAt 18 = .ok (.iload_n 2, 1) := by decide +kernel
theorem dX10_paneAt_19 : decode cX10_paneAt 19 = .ok (.istore 6, 2) := by decide +kernel
theorem dX10_paneAt_21 : decode cX10_paneAt 21 = .ok (.iload 6, 2) := by decide +kernel
theorem dX10_paneAt_23 : decode cX10_paneAt 23 = .ok (.iload 4, 2) := by decide +kernel
theorem dX10_paneAt_25 : decode cX10_paneAt 25 = .ok (.isub, 1) := by decide +kernel
theorem dX10_paneAt_26 : decode cX10_paneAt 26 = .ok (.istore 7, 2) := by decide +kernel
theorem dX10_paneAt_28 : decode cX10_paneAt 28 = .ok (.iload_n 3, 1) := by decide +kernel
theorem dX10_paneAt_29 : decode cX10_paneAt 29 = .ok (.aload_n 1, 1) := by decide +kernel
theorem dX10_paneAt_30 : decode cX10_paneAt 30 = .ok (.bipush 10, 2) := by decide +kernel
theorem dX10_paneAt_32 : decode cX10_paneAt 32 = .ok (.iaload, 1) := by decide +kernel
theorem dX10_paneAt_33 : decode cX10_paneAt 33 = .ok (.isub, 1) := by decide +kernel
theorem dX10_paneAt_34 : decode cX10_paneAt 34 = .ok (.istore 8, 2) := by decide +kernel
theorem dX10_paneAt_36 : decode cX10_paneAt 36 = .ok (.aload_n 0, 1) := by decide +kernel
theorem dX10_paneAt_37 : decode cX10_paneAt 37 = .ok (.iload 7, 2) := by decide +kernel
theorem dX10_paneAt_39 : decode cX10_paneAt 39 = .ok (.iload 8, 2) := by decide +kernel
theorem dX10_paneAt_41 : decode cX10_paneAt 41 = .ok (.invokevirtual 183, 3) := by decide +kernel
theorem dX10_paneAt_44 : decode cX10_paneAt 44 = .ok (.ifCond .eq 33, 3) := by decide +kernel
theorem dX10_paneAt_47 : decode cX10_paneAt 47 = .ok (.iload 5, 2) := by decide +kernel
theorem dX10_paneAt_49 : decode cX10_paneAt 49 = .ok (.ifCond .eq 15, 3) := by decide +kernel
theorem dX10_paneAt_52 : decode cX10_paneAt 52 = .ok (.iload 6, 2) := by decide +kernel
theorem dX10_paneAt_54 : decode cX10_paneAt 54 = .ok (.aload_n 1, 1) := by decide +kernel
theorem dX10_paneAt_55 : decode cX10_paneAt 55 = .ok (.bipush 9, 2) := by decide +kernel
theorem dX10_paneAt_57 : decode cX10_paneAt 57 = .ok (.iaload, 1) := by decide +kernel
theorem dX10_paneAt_58 : decode cX10_paneAt 58 = .ok (.if_icmp .lt 19, 3) := by decide +kernel
theorem dX10_paneAt_61 : decode cX10_paneAt 61 = .ok (.goto 12, 3) := by decide +kernel
theorem dX10_paneAt_64 : decode cX10_paneAt 64 = .ok (.iload 6, 2) := by decide +kernel
theorem dX10_paneAt_66 : decode cX10_paneAt 66 = .ok (.aload_n 1, 1) := by decide +kernel
theorem dX10_paneAt_67 : decode cX10_paneAt 67 = .ok (.bipush 9, 2) := by decide +kernel
theorem dX10_paneAt_69 : decode cX10_paneAt 69 = .ok (.iaload, 1) := by decide +kernel
theorem dX10_paneAt_70 : decode cX10_paneAt 70 = .ok (.if_icmp .ge 7, 3) := by decide +kernel
theorem dX10_paneAt_73 : decode cX10_paneAt 73 = .ok (.iconst 1, 1) := by decide +kernel
theorem dX10_paneAt_74 : decode cX10_paneAt 74 = .ok (.goto 4, 3) := by decide +kernel
theorem dX10_paneAt_77 : decode cX10_paneAt 77 = .ok (.iconst 0, 1) := by decide +kernel
theorem dX10_paneAt_78 : decode cX10_paneAt 78 = .ok (.istore 9, 2) := by decide +kernel
theorem dX10_paneAt_80 : decode cX10_paneAt 80 = .ok (.iload 9, 2) := by decide +kernel
theorem dX10_paneAt_82 : decode cX10_paneAt 82 = .ok (.ifCond .eq 13, 3) := by decide +kernel
theorem dX10_paneAt_85 : decode cX10_paneAt 85 = .ok (.iconst 4, 1) := by decide +kernel
theorem dX10_paneAt_86 : decode cX10_paneAt 86 = .ok (.iload 7, 2) := by decide +kernel
theorem dX10_paneAt_88 : decode cX10_paneAt 88 = .ok (.imul, 1) := by decide +kernel
theorem dX10_paneAt_89 : decode cX10_paneAt 89 = .ok (.iload 8, 2) := by decide +kernel
theorem dX10_paneAt_91 : decode cX10_paneAt 91 = .ok (.iadd, 1) := by decide +kernel
theorem dX10_paneAt_92 : decode cX10_paneAt 92 = .ok (.goto 5, 3) := by decide +kernel
theorem dX10_paneAt_95 : decode cX10_paneAt 95 = .ok (.bipush (-9), 2) := by decide +kernel
theorem dX10_paneAt_97 : decode cX10_paneAt 97 = .ok (.ireturn, 1) := by decide +kernel
theorem dX10_lightOn_0 : decode cX10_lightOn 0 = .ok (.aload_n 0, 1) := by decide +kernel
theorem dX10_lightOn_1 : decode cX10_lightOn 1 = .ok (.aload_n 1, 1) := by decide +kernel
theorem dX10_lightOn_2 : decode cX10_lightOn 2 = .ok (.iload_n 2, 1) := by decide +kernel
theorem dX10_lightOn_3 : decode cX10_lightOn 3 = .ok (.iload_n 3, 1) := by decide +kernel
theorem dX10_lightOn_4 : decode cX10_lightOn 4 = .ok (.iload 4, 2) := by decide +kernel
theorem dX10_lightOn_6 : decode cX10_lightOn 6 = .ok (.iconst 0, 1) := by decide +kernel
theorem dX10_lightOn_7 : decode cX10_lightOn 7 = .ok (.invokevirtual 186, 3) := by decide +kernel
theorem dX10_lightOn_10 : decode cX10_lightOn 10 = .ok (.istore 5, 2) := by decide +kernel
theorem dX10_lightOn_12 : decode cX10_lightOn 12 = .ok (.aload_n 0, 1) := by decide +kernel
theorem dX10_lightOn_13 : decode cX10_lightOn 13 = .ok (.aload_n 1, 1) := by decide +kernel
theorem dX10_lightOn_14 : decode cX10_lightOn 14 = .ok (.iload_n 2, 1) := by decide +kernel
theorem dX10_lightOn_15 : decode cX10_lightOn 15 = .ok (.iload_n 3, 1) := by decide +kernel
theorem dX10_lightOn_16 : decode cX10_lightOn 16 = .ok (.iload 4, 2) := by decide +kernel
theorem dX10_lightOn_18 : decode cX10_lightOn 18 = .ok (.iconst 1, 1) := by decide +kernel
theorem dX10_lightOn_19 : decode cX10_lightOn 19 = .ok (.invokevirtual 186, 3) := by decide +kernel
theorem dX10_lightOn_22 : decode cX10_lightOn 22 = .ok (.istore 6, 2) := by decide +kernel
theorem dX10_lightOn_24 : decode cX10_lightOn 24 = .ok (.iload 5, 2) := by decide +kernel
theorem dX10_lightOn_26 : decode cX10_lightOn 26 = .ok (.bipush (-9), 2) := by decide +kernel
theorem dX10_lightOn_28 : decode cX10_lightOn 28 = .ok (.if_icmp .ne 7, 3) := by decide +kernel
theorem dX10_lightOn_31 : decode cX10_lightOn 31 = .ok (.iconst 0, 1) := by decide +kernel
theorem dX10_lightOn_32 : decode cX10_lightOn 32 = .ok (.goto 10, 3) := by decide +kernel
theorem dX10_lightOn_35 : decode cX10_lightOn 35 = .ok (.aload_n 0, 1) := by decide +kernel
theorem dX10_lightOn_36 : decode cX10_lightOn 36 = .ok (.aload_n 1, 1) := by decide +kernel
theorem dX10_lightOn_37 : decode cX10_lightOn 37 = .ok (.iload 5, 2) := by decide +kernel
theorem dX10_lightOn_39 : decode cX10_lightOn 39 = .ok (.invokevirtual 190, 3) := by decide +kernel
theorem dX10_lightOn_42 : decode cX10_lightOn 42 = .ok (.iload 6, 2) := by decide +kernel
theorem dX10_lightOn_44 : decode cX10_lightOn 44 = .ok (.bipush (-9), 2) := by decide +kernel
theorem dX10_lightOn_46 : decode cX10_lightOn 46 = .ok (.if_icmp .ne 7, 3) := by decide +kernel
theorem dX10_lightOn_49 : decode cX10_lightOn 49 = .ok (.iconst 0, 1) := by decide +kernel
theorem dX10_lightOn_50 : decode cX10_lightOn 50 = .ok (.goto 10, 3) := by decide +kernel
theorem dX10_lightOn_53 : decode cX10_lightOn 53 = .ok (.aload_n 0, 1) := by decide +kernel
theorem dX10_lightOn_54 : decode cX10_lightOn 54 = .ok (.aload_n 1, 1) := by decide +kernel
theorem dX10_lightOn_55 : decode cX10_lightOn 55 = .ok (.iload 6, 2) := by decide +kernel
theorem dX10_lightOn_57 : decode cX10_lightOn 57 = .ok (.invokevirtual 190, 3) := by decide +kernel
theorem dX10_lightOn_60 : decode cX10_lightOn 60 = .ok (.ior, 1) := by decide +kernel
theorem dX10_lightOn_61 : decode cX10_lightOn 61 = .ok (.ireturn, 1) := by decide +kernel
theorem dX10_lightAt_0 : decode cX10_lightAt 0 = .ok (.aload_n 0, 1) := by decide +kernel
theorem dX10_lightAt_1 : decode cX10_lightAt 1 = .ok (.aload_n 0, 1) := by decide +kernel
theorem dX10_lightAt_2 : decode cX10_lightAt 2 = .ok (.getfield 23, 3) := by decide +kernel
theorem dX10_lightAt_5 : decode cX10_lightAt 5 = .ok (.iload_n 1, 1) := by decide +kernel
theorem dX10_lightAt_6 : decode cX10_lightAt 6 = .ok (.bipush 7, 2) := by decide +kernel
theorem dX10_lightAt_8 : decode cX10_lightAt 8 = .ok (.idiv, 1) := by decide +kernel
theorem dX10_lightAt_9 : decode cX10_lightAt 9 = .ok (.iload_n 1, 1) := by decide +kernel
theorem dX10_lightAt_10 : decode cX10_lightAt 10 = .ok (.bipush 7, 2) := by decide +kernel
theorem dX10_lightAt_12 : decode cX10_lightAt 12 = .ok (.irem, 1) := by decide +kernel
theorem dX10_lightAt_13 : decode cX10_lightAt 13 = .ok (.iload_n 2, 1) := by decide +kernel
theorem dX10_lightAt_14 : decode cX10_lightAt 14 = .ok (.invokevirtual 193, 3) := by decide +kernel
theorem dX10_lightAt_17 : decode cX10_lightAt 17 = .ok (.ireturn, 1) := by decide +kernel
theorem dX10_breaksOn_0 : decode cX10_breaksOn 0 = .ok (.iconst 0, 1) := by decide +kernel
theorem dX10_breaksOn_1 : decode cX10_breaksOn 1 = .ok (.istore_n 2, 1) := by decide +kernel
theorem dX10_breaksOn_2 : decode cX10_breaksOn 2 = .ok (.iload_n 2, 1) := by decide +kernel
theorem dX10_breaksOn_3 : decode cX10_breaksOn 3 = .ok (.bipush 8, 2) := by decide +kernel
theorem dX10_breaksOn_5 : decode cX10_breaksOn 5 = .ok (.if_icmp .ge 33, 3) := by decide +kernel
theorem dX10_breaksOn_8 : decode cX10_breaksOn 8 = .ok (.aload_n 0, 1) := by decide +kernel
theorem dX10_breaksOn_9 : decode cX10_breaksOn 9 = .ok (.iconst 0, 1) := by decide +kernel
theorem dX10_breaksOn_10 : decode cX10_breaksOn 10 = .ok (.iload_n 2, 1) := by decide +kernel
theorem dX10_breaksOn_11 : decode cX10_breaksOn 11 = .ok (.iadd, 1) := by decide +kernel
theorem dX10_breaksOn_12 : decode cX10_breaksOn 12 = .ok (.aload_n 0, 1) := by decide +kernel
theorem dX10_breaksOn_13 : decode cX10_breaksOn 13 = .ok (.iconst 0, 1) := by decide +kernel
theorem dX10_breaksOn_14 : decode cX10_breaksOn 14 = .ok (.iload_n 2, 1) := by decide +kernel
theorem dX10_breaksOn_15 : decode cX10_breaksOn 15 = .ok (.iadd, 1) := by decide +kernel
theorem dX10_breaksOn_16 : decode cX10_breaksOn 16 = .ok (.iaload, 1) := by decide +kernel
theorem dX10_breaksOn_17 : decode cX10_breaksOn 17 = .ok (.iload_n 1, 1) := by decide +kernel
theorem dX10_breaksOn_18 : decode cX10_breaksOn 18 = .ok (.if_icmp .ne 8, 3) := by decide +kernel
theorem dX10_breaksOn_21 : decode cX10_breaksOn 21 = .ok (.bipush (-9), 2) := by decide +kernel
theorem dX10_breaksOn_23 : decode cX10_breaksOn 23 = .ok (.goto 8, 3) := by decide +kernel
theorem dX10_breaksOn_26 : decode cX10_breaksOn 26 = .ok (.aload_n 0, 1) := by decide +kernel
theorem dX10_breaksOn_27 : decode cX10_breaksOn 27 = .ok (.iconst 0, 1) := by decide +kernel
theorem dX10_breaksOn_28 : decode cX10_breaksOn 28 = .ok (.iload_n 2, 1) := by decide +kernel
theorem dX10_breaksOn_29 : decode cX10_breaksOn 29 = .ok (.iadd, 1) := by decide +kernel
theorem dX10_breaksOn_30 : decode cX10_breaksOn 30 = .ok (.iaload, 1) := by decide +kernel
theorem dX10_breaksOn_31 : decode cX10_breaksOn 31 = .ok (.iastore, 1) := by decide +kernel
theorem dX10_breaksOn_32 : decode cX10_breaksOn 32 = .ok (.iinc 2 1, 3) := by decide +kernel
theorem dX10_breaksOn_35 : decode cX10_breaksOn 35 = .ok (.goto (-33), 3) := by decide +kernel
theorem dX10_breaksOn_38 : decode cX10_breaksOn 38 = .ok (.aload_n 0, 1) := by decide +kernel
theorem dX10_breaksOn_39 : decode cX10_breaksOn 39 = .ok (.bipush 8, 2) := by decide +kernel
theorem dX10_breaksOn_41 : decode cX10_breaksOn 41 = .ok (.dup2, 1) := by decide +kernel
theorem dX10_breaksOn_42 : decode cX10_breaksOn 42 = .ok (.iaload, 1) := by decide +kernel
theorem dX10_breaksOn_43 : decode cX10_breaksOn 43 = .ok (.iconst 1, 1) := by decide +kernel
theorem dX10_breaksOn_44 : decode cX10_breaksOn 44 = .ok (.iload_n 1, 1) := by decide +kernel
theorem dX10_breaksOn_45 : decode cX10_breaksOn 45 = .ok (.ishl, 1) := by decide +kernel
theorem dX10_breaksOn_46 : decode cX10_breaksOn 46 = .ok (.ior, 1) := by decide +kernel
theorem dX10_breaksOn_47 : decode cX10_breaksOn 47 = .ok (.iastore, 1) := by decide +kernel
theorem dX10_breaksOn_48 : decode cX10_breaksOn 48 = .ok (.return_, 1) := by decide +kernel
theorem dX10_pane_0 : decode cX10_pane 0 = .ok (.aload_n 0, 1) := by decide +kernel
theorem dX10_pane_1 : decode cX10_pane 1 = .ok (.iload_n 1, 1) := by decide +kernel
theorem dX10_pane_2 : decode cX10_pane 2 = .ok (.iload_n 2, 1) := by decide +kernel
theorem dX10_pane_3 : decode cX10_pane 3 = .ok (.invokevirtual 183, 3) := by decide +kernel
theorem dX10_pane_6 : decode cX10_pane 6 = .ok (.ifCond .ne 5, 3) := by decide +kernel
theorem dX10_pane_9 : decode cX10_pane 9 = .ok (.iconst (-1), 1) := by decide +kernel
theorem dX10_pane_10 : decode cX10_pane 10 = .ok (.ireturn, 1) := by decide +kernel
theorem dX10_pane_11 : decode cX10_pane 11 = .ok (.iconst 4, 1) := by decide +kernel
theorem dX10_pane_12 : decode cX10_pane 12 = .ok (.iload_n 1, 1) := by decide +kernel
theorem dX10_pane_13 : decode cX10_pane 13 = .ok (.imul, 1) := by decide +kernel
theorem dX10_pane_14 : decode cX10_pane 14 = .ok (.iload_n 2, 1) := by decide +kernel
theorem dX10_pane_15 : decode cX10_pane 15 = .ok (.iadd, 1) := by decide +kernel
theorem dX10_pane_16 : decode cX10_pane 16 = .ok (.istore 4, 2) := by decide +kernel
theorem dX10_pane_18 : decode cX10_pane 18 = .ok (.iload_n 3, 1) := by decide +kernel
theorem dX10_pane_19 : decode cX10_pane 19 = .ok (.tableswitch 72 0 3 #[29, 37, 50, 61], 29) := by decide +kernel
theorem dX10_pane_48 : decode cX10_pane 48 = .ok (.aload_n 0, 1) := by decide +kernel
theorem dX10_pane_49 : decode cX10_pane 49 = .ok (.getfield 16, 3) := by decide +kernel
theorem dX10_pane_52 : decode cX10_pane 52 = .ok (.iload 4, 2) := by decide +kernel
theorem dX10_pane_54 : decode cX10_pane 54 = .ok (.iaload, 1) := by decide +kernel
theorem dX10_pane_55 : decode cX10_pane 55 = .ok (.ireturn, 1) := by decide +kernel
theorem dX10_pane_56 : decode cX10_pane 56 = .ok (.aload_n 0, 1) := by decide +kernel
theorem dX10_pane_57 : decode cX10_pane 57 = .ok (.getfield 23, 3) := by decide +kernel
theorem dX10_pane_60 : decode cX10_pane 60 = .ok (.bipush 8, 2) := by decide +kernel
theorem dX10_pane_62 : decode cX10_pane 62 = .ok (.iaload, 1) := by decide +kernel
theorem dX10_pane_63 : decode cX10_pane 63 = .ok (.iload 4, 2) := by decide +kernel
theorem dX10_pane_65 : decode cX10_pane 65 = .ok (.ishr, 1) := by decide +kernel
theorem dX10_pane_66 : decode cX10_pane 66 = .ok (.iconst 1, 1) := by decide +kernel
theorem dX10_pane_67 : decode cX10_pane 67 = .ok (.iand, 1) := by decide +kernel
theorem dX10_pane_68 : decode cX10_pane 68 = .ok (.ireturn, 1) := by decide +kernel
theorem dX10_pane_69 : decode cX10_pane 69 = .ok (.aload_n 0, 1) := by decide +kernel
theorem dX10_pane_70 : decode cX10_pane 70 = .ok (.aload_n 0, 1) := by decide +kernel
theorem dX10_pane_71 : decode cX10_pane 71 = .ok (.getfield 23, 3) := by decide +kernel
theorem dX10_pane_74 : decode cX10_pane 74 = .ok (.iload 4, 2) := by decide +kernel
theorem dX10_pane_76 : decode cX10_pane 76 = .ok (.invokevirtual 175, 3) := by decide +kernel
theorem dX10_pane_79 : decode cX10_pane 79 = .ok (.ireturn, 1) := by decide +kernel
theorem dX10_pane_80 : decode cX10_pane 80 = .ok (.aload_n 0, 1) := by decide +kernel
theorem dX10_pane_81 : decode cX10_pane 81 = .ok (.aload_n 0, 1) := by decide +kernel
theorem dX10_pane_82 : decode cX10_pane 82 = .ok (.getfield 23, 3) := by decide +kernel
theorem dX10_pane_85 : decode cX10_pane 85 = .ok (.iload 4, 2) := by decide +kernel
theorem dX10_pane_87 : decode cX10_pane 87 = .ok (.invokevirtual 190, 3) := by decide +kernel
theorem dX10_pane_90 : decode cX10_pane 90 = .ok (.ireturn, 1) := by decide +kernel
theorem dX10_pane_91 : decode cX10_pane 91 = .ok (.iconst (-1), 1) := by decide +kernel
theorem dX10_pane_92 : decode cX10_pane 92 = .ok (.ireturn, 1) := by decide +kernel
theorem dX10_sheet_0 : decode cX10_sheet 0 = .ok (.aload_n 0, 1) := by decide +kernel
theorem dX10_sheet_1 : decode cX10_sheet 1 = .ok (.iload_n 1, 1) := by decide +kernel
theorem dX10_sheet_2 : decode cX10_sheet 2 = .ok (.invokevirtual 197, 3) := by decide +kernel
theorem dX10_sheet_5 : decode cX10_sheet 5 = .ok (.ifCond .eq 13, 3) := by decide +kernel
theorem dX10_sheet_8 : decode cX10_sheet 8 = .ok (.iload_n 2, 1) := by decide +kernel
theorem dX10_sheet_9 : decode cX10_sheet 9 = .ok (.i2l, 1) := by decide +kernel
theorem dX10_sheet_10 : decode cX10_sheet 10 = .ok (.lconst 0, 1) := by decide +kernel
theorem dX10_sheet_11 : decode cX10_sheet 11 = .ok (.lconst 1, 1) := by decide +kernel
theorem dX10_sheet_12 : decode cX10_sheet 12 = .ok (.invokestatic 81, 3) := by decide +kernel
theorem dX10_sheet_15 : decode cX10_sheet 15 = .ok (.ifCond .ne 5, 3) := by decide +kernel
theorem dX10_sheet_18 : decode cX10_sheet 18 = .ok (.iconst (-1), 1) := by decide +kernel
theorem dX10_sheet_19 : decode cX10_sheet 19 = .ok (.ireturn, 1) := by decide +kernel
theorem dX10_sheet_20 : decode cX10_sheet 20 = .ok (.iload_n 2, 1) := by decide +kernel
theorem dX10_sheet_21 : decode cX10_sheet 21 = .ok (.ifCond .ne 12, 3) := by decide +kernel
theorem dX10_sheet_24 : decode cX10_sheet 24 = .ok (.aload_n 0, 1) := by decide +kernel
theorem dX10_sheet_25 : decode cX10_sheet 25 = .ok (.getfield 20, 3) := by decide +kernel
theorem dX10_sheet_28 : decode cX10_sheet 28 = .ok (.iload_n 1, 1) := by decide +kernel
theorem dX10_sheet_29 : decode cX10_sheet 29 = .ok (.iaload, 1) := by decide +kernel
theorem dX10_sheet_30 : decode cX10_sheet 30 = .ok (.goto 11, 3) := by decide +kernel
theorem dX10_sheet_33 : decode cX10_sheet 33 = .ok (.aload_n 0, 1) := by decide +kernel
theorem dX10_sheet_34 : decode cX10_sheet 34 = .ok (.getfield 23, 3) := by decide +kernel
theorem dX10_sheet_37 : decode cX10_sheet 37 = .ok (.iconst 0, 1) := by decide +kernel
theorem dX10_sheet_38 : decode cX10_sheet 38 = .ok (.iload_n 1, 1) := by decide +kernel
theorem dX10_sheet_39 : decode cX10_sheet 39 = .ok (.iadd, 1) := by decide +kernel
theorem dX10_sheet_40 : decode cX10_sheet 40 = .ok (.iaload, 1) := by decide +kernel
theorem dX10_sheet_41 : decode cX10_sheet 41 = .ok (.ireturn, 1) := by decide +kernel
theorem dX10_remember_0 : decode cX10_remember 0 = .ok (.aload_n 0, 1) := by decide +kernel
theorem dX10_remember_1 : decode cX10_remember 1 = .ok (.getfield 73, 3) := by decide +kernel
theorem dX10_remember_4 : decode cX10_remember 4 = .ok (.bipush 10, 2) := by decide +kernel
theorem dX10_remember_6 : decode cX10_remember 6 = .ok (.if_icmp .ne 42, 3) := by decide +kernel
theorem dX10_remember_9 : decode cX10_remember 9 = .ok (.iconst 0, 1) := by decide +kernel
theorem dX10_remember_10 : decode cX10_remember 10 = .ok (.istore_n 1, 1) := by decide +kernel
theorem dX10_remember_11 : decode cX10_remember 11 = .ok (.iload_n 1, 1) := by decide +kernel
theorem dX10_remember_12 : decode cX10_remember 12 = .ok (.bipush 99, 2) := by decide +kernel
theorem dX10_remember_14 : decode cX10_remember 14 = .ok (.if_icmp .ge 24, 3) := by decide +kernel
theorem dX10_remember_17 : decode cX10_remember 17 = .ok (.aload_n 0, 1) := by decide +kernel
theorem dX10_remember_18 : decode cX10_remember 18 = .ok (.getfield 29, 3) := by decide +kernel
theorem dX10_remember_21 : decode cX10_remember 21 = .ok (.iload_n 1, 1) := by decide +kernel
theorem dX10_remember_22 : decode cX10_remember 22 = .ok (.aload_n 0, 1) := by decide +kernel
theorem dX10_remember_23 : decode cX10_remember 23 = .ok (.getfield 29, 3) := by decide +kernel
theorem dX10_remember_26 : decode cX10_remember 26 = .ok (.iload_n 1, 1) := by decide +kernel
theorem dX10_remember_27 : decode cX10_remember 27 = .ok (.bipush 11, 2) := by decide +kernel
theorem dX10_remember_29 : decode cX10_remember 29 = .ok (.iadd, 1) := by decide +kernel
theorem dX10_remember_30 : decode cX10_remember 30 = .ok (.iaload, 1) := by decide +kernel
theorem dX10_remember_31 : decode cX10_remember 31 = .ok (.iastore, 1) := by decide +kernel
theorem dX10_remember_32 : decode cX10_remember 32 = .ok (.iinc 1 1, 3) := by decide +kernel
theorem dX10_remember_35 : decode cX10_remember 35 = .ok (.goto (-24), 3) := by decide +kernel
theorem dX10_remember_38 : decode cX10_remember 38 = .ok (.aload_n 0, 1) := by decide +kernel
theorem dX10_remember_39 : decode cX10_remember 39 = .ok (.dup, 1) := by decide +kernel
theorem dX10_remember_40 : decode cX10_remember 40 = .ok (.getfield 73, 3) := by decide +kernel
theorem dX10_remember_43 : decode cX10_remember 43 = .ok (.iconst 1, 1) := by decide +kernel
theorem dX10_remember_44 : decode cX10_remember 44 = .ok (.isub, 1) := by decide +kernel
theorem dX10_remember_45 : decode cX10_remember 45 = .ok (.putfield 73, 3) := by decide +kernel
theorem dX10_remember_48 : decode cX10_remember 48 = .ok (.aload_n 0, 1) := by decide +kernel
theorem dX10_remember_49 : decode cX10_remember 49 = .ok (.getfield 23, 3) := by decide +kernel
theorem dX10_remember_52 : decode cX10_remember 52 = .ok (.iconst 0, 1) := by decide +kernel
theorem dX10_remember_53 : decode cX10_remember 53 = .ok (.aload_n 0, 1) := by decide +kernel
theorem dX10_remember_54 : decode cX10_remember 54 = .ok (.getfield 29, 3) := by decide +kernel
theorem dX10_remember_57 : decode cX10_remember 57 = .ok (.bipush 11, 2) := by decide +kernel
theorem dX10_remember_59 : decode cX10_remember 59 = .ok (.aload_n 0, 1) := by decide +kernel
theorem dX10_remember_60 : decode cX10_remember 60 = .ok (.getfield 73, 3) := by decide +kernel
theorem dX10_remember_63 : decode cX10_remember 63 = .ok (.imul, 1) := by decide +kernel
theorem dX10_remember_64 : decode cX10_remember 64 = .ok (.bipush 11, 2) := by decide +kernel
theorem dX10_remember_66 : decode cX10_remember 66 = .ok (.invokestatic 162, 3) := by decide +kernel
theorem dX10_remember_69 : decode cX10_remember 69 = .ok (.aload_n 0, 1) := by decide +kernel
theorem dX10_remember_70 : decode cX10_remember 70 = .ok (.dup, 1) := by decide +kernel
theorem dX10_remember_71 : decode cX10_remember 71 = .ok (.getfield 73, 3) := by decide +kernel
theorem dX10_remember_74 : decode cX10_remember 74 = .ok (.iconst 1, 1) := by decide +kernel
theorem dX10_remember_75 : decode cX10_remember 75 = .ok (.iadd, 1) := by decide +kernel
theorem dX10_remember_76 : decode cX10_remember 76 = .ok (.putfield 73, 3) := by decide +kernel
theorem dX10_remember_79 : decode cX10_remember 79 = .ok (.return_, 1) := by decide +kernel
theorem dX10_lays_0 : decode cX10_lays 0 = .ok (.aload_n 0, 1) := by decide +kernel
theorem dX10_lays_1 : decode cX10_lays 1 = .ok (.iload_n 1, 1) := by decide +kernel
theorem dX10_lays_2 : decode cX10_lays 2 = .ok (.invokevirtual 197, 3) := by decide +kernel
theorem dX10_lays_5 : decode cX10_lays 5 = .ok (.ifCond .eq 12, 3) := by decide +kernel
theorem dX10_lays_8 : decode cX10_lays 8 = .ok (.aload_n 0, 1) := by decide +kernel
theorem dX10_lays_9 : decode cX10_lays 9 = .ok (.iload_n 2, 1) := by decide +kernel
theorem dX10_lays_10 : decode cX10_lays 10 = .ok (.iload_n 3, 1) := by decide +kernel
theorem dX10_lays_11 : decode cX10_lays 11 = .ok (.invokevirtual 183, 3) := by decide +kernel
theorem dX10_lays_14 : decode cX10_lays 14 = .ok (.ifCond .ne 5, 3) := by decide +kernel
theorem dX10_lays_17 : decode cX10_lays 17 = .ok (.iconst (-1), 1) := by decide +kernel
theorem dX10_lays_18 : decode cX10_lays 18 = .ok (.ireturn, 1) := by decide +kernel
theorem dX10_lays_19 : decode cX10_lays 19 = .ok (.iconst 4, 1) := by decide +kernel
theorem dX10_lays_20 : decode cX10_lays 20 = .ok (.iload_n 2, 1) := by decide +kernel
theorem dX10_lays_21 : decode cX10_lays 21 = .ok (.imul, 1) := by decide +kernel
theorem dX10_lays_22 : decode cX10_lays 22 = .ok (.iload_n 3, 1) := by decide +kernel
theorem dX10_lays_23 : decode cX10_lays 23 = .ok (.iadd, 1) := by decide +kernel
theorem dX10_lays_24 : decode cX10_lays 24 = .ok (.istore 4, 2) := by decide +kernel
theorem dX10_lays_26 : decode cX10_lays 26 = .ok (.aload_n 0, 1) := by decide +kernel
theorem dX10_lays_27 : decode cX10_lays 27 = .ok (.getfield 23, 3) := by decide +kernel
theorem dX10_lays_30 : decode cX10_lays 30 = .ok (.iconst 0, 1) := by decide +kernel
theorem dX10_lays_31 : decode cX10_lays 31 = .ok (.iload_n 1, 1) := by decide +kernel
theorem dX10_lays_32 : decode cX10_lays 32 = .ok (.iadd, 1) := by decide +kernel
theorem dX10_lays_33 : decode cX10_lays 33 = .ok (.iaload, 1) := by decide +kernel
theorem dX10_lays_34 : decode cX10_lays 34 = .ok (.bipush (-9), 2) := by decide +kernel
theorem dX10_lays_36 : decode cX10_lays 36 = .ok (.if_icmp .ne 35, 3) := by decide +kernel
theorem dX10_lays_39 : decode cX10_lays 39 = .ok (.aload_n 0, 1) := by decide +kernel
theorem dX10_lays_40 : decode cX10_lays 40 = .ok (.getfield 23, 3) := by decide +kernel
theorem dX10_lays_43 : decode cX10_lays 43 = .ok (.bipush 8, 2) := by decide +kernel
theorem dX10_lays_45 : decode cX10_lays 45 = .ok (.iaload, 1) := by decide +kernel
theorem dX10_lays_46 : decode cX10_lays 46 = .ok (.iload 4, 2) := by decide +kernel
theorem dX10_lays_48 : decode cX10_lays 48 = .ok (.invokestatic 172, 3) := by decide +kernel
theorem dX10_lays_51 : decode cX10_lays 51 = .ok (.ifCond .ne 20, 3) := by decide +kernel
theorem dX10_lays_54 : decode cX10_lays 54 = .ok (.aload_n 0, 1) := by decide +kernel
theorem dX10_lays_55 : decode cX10_lays 55 = .ok (.aload_n 0, 1) := by decide +kernel
theorem dX10_lays_56 : decode cX10_lays 56 = .ok (.getfield 23, 3) := by decide +kernel
theorem dX10_lays_59 : decode cX10_lays 59 = .ok (.iload 4, 2) := by decide +kernel
theorem dX10_lays_61 : decode cX10_lays 61 = .ok (.invokevirtual 175, 3) := by decide +kernel
theorem dX10_lays_64 : decode cX10_lays 64 = .ok (.invokestatic 201, 3) := by decide +kernel
theorem dX10_lays_67 : decode cX10_lays 67 = .ok (.iconst 3, 1) := by decide +kernel
theorem dX10_lays_68 : decode cX10_lays 68 = .ok (.if_icmp .ne 6, 3) := by decide +kernel
theorem dX10_lays_71 : decode cX10_lays 71 = .ok (.bipush (-2), 2) := by decide +kernel
theorem dX10_lays_73 : decode cX10_lays 73 = .ok (.ireturn, 1) := by decide +kernel
theorem dX10_lays_74 : decode cX10_lays 74 = .ok (.aload_n 0, 1) := by decide +kernel
theorem dX10_lays_75 : decode cX10_lays 75 = .ok (.invokevirtual 204, 3) := by decide +kernel
theorem dX10_lays_78 : decode cX10_lays 78 = .ok (.aload_n 0, 1) := by decide +kernel
theorem dX10_lays_79 : decode cX10_lays 79 = .ok (.getfield 23, 3) := by decide +kernel
theorem dX10_lays_82 : decode cX10_lays 82 = .ok (.iconst 0, 1) := by decide +kernel
theorem dX10_lays_83 : decode cX10_lays 83 = .ok (.iload_n 1, 1) := by decide +kernel
theorem dX10_lays_84 : decode cX10_lays 84 = .ok (.iadd, 1) := by decide +kernel
theorem dX10_lays_85 : decode cX10_lays 85 = .ok (.iload 4, 2) := by decide +kernel
theorem dX10_lays_87 : decode cX10_lays 87 = .ok (.iastore, 1) := by decide +kernel
theorem dX10_lays_88 : decode cX10_lays 88 = .ok (.aload_n 0, 1) := by decide +kernel
theorem dX10_lays_89 : decode cX10_lays 89 = .ok (.aload_n 0, 1) := by decide +kernel
theorem dX10_lays_90 : decode cX10_lays 90 = .ok (.getfield 23, 3) := by decide +kernel
theorem dX10_lays_93 : decode cX10_lays 93 = .ok (.iload 4, 2) := by decide +kernel
theorem dX10_lays_95 : decode cX10_lays 95 = .ok (.invokevirtual 190, 3) := by decide +kernel
theorem dX10_lays_98 : decode cX10_lays 98 = .ok (.ireturn, 1) := by decide +kernel
theorem dX10_takes_0 : decode cX10_takes 0 = .ok (.aload_n 0, 1) := by decide +kernel
theorem dX10_takes_1 : decode cX10_takes 1 = .ok (.iload_n 1, 1) := by decide +kernel
theorem dX10_takes_2 : decode cX10_takes 2 = .ok (.invokevirtual 197, 3) := by decide +kernel
theorem dX10_takes_5 : decode cX10_takes 5 = .ok (.ifCond .ne 5, 3) := by decide +kernel
theorem dX10_takes_8 : decode cX10_takes 8 = .ok (.iconst (-1), 1) := by decide +kernel
theorem dX10_takes_9 : decode cX10_takes 9 = .ok (.ireturn, 1) := by decide +kernel
theorem dX10_takes_10 : decode cX10_takes 10 = .ok (.aload_n 0, 1) := by decide +kernel
theorem dX10_takes_11 : decode cX10_takes 11 = .ok (.getfield 23, 3) := by decide +kernel
theorem dX10_takes_14 : decode cX10_takes 14 = .ok (.iconst 0, 1) := by decide +kernel
theorem dX10_takes_15 : decode cX10_takes 15 = .ok (.iload_n 1, 1) := by decide +kernel
theorem dX10_takes_16 : decode cX10_takes 16 = .ok (.iadd, 1) := by decide +kernel
theorem dX10_takes_17 : decode cX10_takes 17 = .ok (.iaload, 1) := by decide +kernel
theorem dX10_takes_18 : decode cX10_takes 18 = .ok (.istore_n 2, 1) := by decide +kernel
theorem dX10_takes_19 : decode cX10_takes 19 = .ok (.iload_n 2, 1) := by decide +kernel
theorem dX10_takes_20 : decode cX10_takes 20 = .ok (.bipush (-9), 2) := by decide +kernel
theorem dX10_takes_22 : decode cX10_takes 22 = .ok (.if_icmp .ne 6, 3) := by decide +kernel
theorem dX10_takes_25 : decode cX10_takes 25 = .ok (.bipush (-2), 2) := by decide +kernel
theorem dX10_takes_27 : decode cX10_takes 27 = .ok (.ireturn, 1) := by decide +kernel
theorem dX10_takes_28 : decode cX10_takes 28 = .ok (.aload_n 0, 1) := by decide +kernel
theorem dX10_takes_29 : decode cX10_takes 29 = .ok (.invokevirtual 204, 3) := by decide +kernel
theorem dX10_takes_32 : decode cX10_takes 32 = .ok (.aload_n 0, 1) := by decide +kernel
theorem dX10_takes_33 : decode cX10_takes 33 = .ok (.getfield 23, 3) := by decide +kernel
theorem dX10_takes_36 : decode cX10_takes 36 = .ok (.iconst 0, 1) := by decide +kernel
theorem dX10_takes_37 : decode cX10_takes 37 = .ok (.iload_n 1, 1) := by decide +kernel
theorem dX10_takes_38 : decode cX10_takes 38 = .ok (.iadd, 1) := by decide +kernel
theorem dX10_takes_39 : decode cX10_takes 39 = .ok (.bipush (-9), 2) := by decide +kernel
theorem dX10_takes_41 : decode cX10_takes 41 = .ok (.iastore, 1) := by decide +kernel
theorem dX10_takes_42 : decode cX10_takes 42 = .ok (.iload_n 2, 1) := by decide +kernel
theorem dX10_takes_43 : decode cX10_takes 43 = .ok (.ireturn, 1) := by decide +kernel
theorem dX10_breaks_0 : decode cX10_breaks 0 = .ok (.aload_n 0, 1) := by decide +kernel
theorem dX10_breaks_1 : decode cX10_breaks 1 = .ok (.iload_n 1, 1) := by decide +kernel
theorem dX10_breaks_2 : decode cX10_breaks 2 = .ok (.iload_n 2, 1) := by decide +kernel
theorem dX10_breaks_3 : decode cX10_breaks 3 = .ok (.invokevirtual 183, 3) := by decide +kernel
theorem dX10_breaks_6 : decode cX10_breaks 6 = .ok (.ifCond .ne 5, 3) := by decide +kernel
theorem dX10_breaks_9 : decode cX10_breaks 9 = .ok (.iconst (-1), 1) := by decide +kernel
theorem dX10_breaks_10 : decode cX10_breaks 10 = .ok (.ireturn, 1) := by decide +kernel
theorem dX10_breaks_11 : decode cX10_breaks 11 = .ok (.iconst 4, 1) := by decide +kernel
theorem dX10_breaks_12 : decode cX10_breaks 12 = .ok (.iload_n 1, 1) := by decide +kernel
theorem dX10_breaks_13 : decode cX10_breaks 13 = .ok (.imul, 1) := by decide +kernel
theorem dX10_breaks_14 : decode cX10_breaks 14 = .ok (.iload_n 2, 1) := by decide +kernel
theorem dX10_breaks_15 : decode cX10_breaks 15 = .ok (.iadd, 1) := by decide +kernel
theorem dX10_breaks_16 : decode cX10_breaks 16 = .ok (.istore_n 3, 1) := by decide +kernel
theorem dX10_breaks_17 : decode cX10_breaks 17 = .ok (.aload_n 0, 1) := by decide +kernel
theorem dX10_breaks_18 : decode cX10_breaks 18 = .ok (.getfield 23, 3) := by decide +kernel
theorem dX10_breaks_21 : decode cX10_breaks 21 = .ok (.bipush 8, 2) := by decide +kernel
theorem dX10_breaks_23 : decode cX10_breaks 23 = .ok (.iaload, 1) := by decide +kernel
theorem dX10_breaks_24 : decode cX10_breaks 24 = .ok (.iload_n 3, 1) := by decide +kernel
theorem dX10_breaks_25 : decode cX10_breaks 25 = .ok (.invokestatic 172, 3) := by decide +kernel
theorem dX10_breaks_28 : decode cX10_breaks 28 = .ok (.ifCond .eq 6, 3) := by decide +kernel
theorem dX10_breaks_31 : decode cX10_breaks 31 = .ok (.bipush (-2), 2) := by decide +kernel
theorem dX10_breaks_33 : decode cX10_breaks 33 = .ok (.ireturn, 1) := by decide +kernel
theorem dX10_breaks_34 : decode cX10_breaks 34 = .ok (.aload_n 0, 1) := by decide +kernel
theorem dX10_breaks_35 : decode cX10_breaks 35 = .ok (.invokevirtual 204, 3) := by decide +kernel
theorem dX10_breaks_38 : decode cX10_breaks 38 = .ok (.aload_n 0, 1) := by decide +kernel
theorem dX10_breaks_39 : decode cX10_breaks 39 = .ok (.aload_n 0, 1) := by decide +kernel
theorem dX10_breaks_40 : decode cX10_breaks 40 = .ok (.getfield 23, 3) := by decide +kernel
theorem dX10_breaks_43 : decode cX10_breaks 43 = .ok (.iload_n 3, 1) := by decide +kernel
theorem dX10_breaks_44 : decode cX10_breaks 44 = .ok (.invokevirtual 175, 3) := by decide +kernel
theorem dX10_breaks_47 : decode cX10_breaks 47 = .ok (.invokestatic 201, 3) := by decide +kernel
theorem dX10_breaks_50 : decode cX10_breaks 50 = .ok (.istore 4, 2) := by decide +kernel
theorem dX10_breaks_52 : decode cX10_breaks 52 = .ok (.aload_n 0, 1) := by decide +kernel
theorem dX10_breaks_53 : decode cX10_breaks 53 = .ok (.getfield 23, 3) := by decide +kernel
theorem dX10_breaks_56 : decode cX10_breaks 56 = .ok (.iload_n 3, 1) := by decide +kernel
theorem dX10_breaks_57 : decode cX10_breaks 57 = .ok (.invokestatic 207, 3) := by decide +kernel
theorem dX10_breaks_60 : decode cX10_breaks 60 = .ok (.iload 4, 2) := by decide +kernel
theorem dX10_breaks_62 : decode cX10_breaks 62 = .ok (.ireturn, 1) := by decide +kernel
theorem dX10_mends_0 : decode cX10_mends 0 = .ok (.aload_n 0, 1) := by decide +kernel
theorem dX10_mends_1 : decode cX10_mends 1 = .ok (.iload_n 1, 1) := by decide +kernel
theorem dX10_mends_2 : decode cX10_mends 2 = .ok (.iload_n 2, 1) := by decide +kernel
theorem dX10_mends_3 : decode cX10_mends 3 = .ok (.invokevirtual 183, 3) := by decide +kernel
theorem dX10_mends_6 : decode cX10_mends 6 = .ok (.ifCond .ne 5, 3) := by decide +kernel
theorem dX10_mends_9 : decode cX10_mends 9 = .ok (.iconst (-1), 1) := by decide +kernel
theorem dX10_mends_10 : decode cX10_mends 10 = .ok (.ireturn, 1) := by decide +kernel
theorem dX10_mends_11 : decode cX10_mends 11 = .ok (.iconst 4, 1) := by decide +kernel
theorem dX10_mends_12 : decode cX10_mends 12 = .ok (.iload_n 1, 1) := by decide +kernel
theorem dX10_mends_13 : decode cX10_mends 13 = .ok (.imul, 1) := by decide +kernel
theorem dX10_mends_14 : decode cX10_mends 14 = .ok (.iload_n 2, 1) := by decide +kernel
theorem dX10_mends_15 : decode cX10_mends 15 = .ok (.iadd, 1) := by decide +kernel
theorem dX10_mends_16 : decode cX10_mends 16 = .ok (.istore_n 3, 1) := by decide +kernel
theorem dX10_mends_17 : decode cX10_mends 17 = .ok (.aload_n 0, 1) := by decide +kernel
theorem dX10_mends_18 : decode cX10_mends 18 = .ok (.getfield 23, 3) := by decide +kernel
theorem dX10_mends_21 : decode cX10_mends 21 = .ok (.bipush 8, 2) := by decide +kernel
theorem dX10_mends_23 : decode cX10_mends 23 = .ok (.iaload, 1) := by decide +kernel
theorem dX10_mends_24 : decode cX10_mends 24 = .ok (.iload_n 3, 1) := by decide +kernel
theorem dX10_mends_25 : decode cX10_mends 25 = .ok (.invokestatic 172, 3) := by decide +kernel
theorem dX10_mends_28 : decode cX10_mends 28 = .ok (.ifCond .ne 6, 3) := by decide +kernel
theorem dX10_mends_31 : decode cX10_mends 31 = .ok (.bipush (-2), 2) := by decide +kernel
theorem dX10_mends_33 : decode cX10_mends 33 = .ok (.ireturn, 1) := by decide +kernel
theorem dX10_mends_34 : decode cX10_mends 34 = .ok (.aload_n 0, 1) := by decide +kernel
theorem dX10_mends_35 : decode cX10_mends 35 = .ok (.invokevirtual 204, 3) := by decide +kernel
theorem dX10_mends_38 : decode cX10_mends 38 = .ok (.aload_n 0, 1) := by decide +kernel
theorem dX10_mends_39 : decode cX10_mends 39 = .ok (.getfield 23, 3) := by decide +kernel
theorem dX10_mends_42 : decode cX10_mends 42 = .ok (.bipush 8, 2) := by decide +kernel
theorem dX10_mends_44 : decode cX10_mends 44 = .ok (.dup2, 1) := by decide +kernel
theorem dX10_mends_45 : decode cX10_mends 45 = .ok (.iaload, 1) := by decide +kernel
theorem dX10_mends_46 : decode cX10_mends 46 = .ok (.iconst 1, 1) := by decide +kernel
theorem dX10_mends_47 : decode cX10_mends 47 = .ok (.iload_n 3, 1) := by decide +kernel
theorem dX10_mends_48 : decode cX10_mends 48 = .ok (.ishl, 1) := by decide +kernel
theorem dX10_mends_49 : decode cX10_mends 49 = .ok (.iconst (-1), 1) := by decide +kernel
theorem dX10_mends_50 : decode cX10_mends 50 = .ok (.ixor, 1) := by decide +kernel
theorem dX10_mends_51 : decode cX10_mends 51 = .ok (.iand, 1) := by decide +kernel
theorem dX10_mends_52 : decode cX10_mends 52 = .ok (.iastore, 1) := by decide +kernel
theorem dX10_mends_53 : decode cX10_mends 53 = .ok (.aload_n 0, 1) := by decide +kernel
theorem dX10_mends_54 : decode cX10_mends 54 = .ok (.getfield 16, 3) := by decide +kernel
theorem dX10_mends_57 : decode cX10_mends 57 = .ok (.iload_n 3, 1) := by decide +kernel
theorem dX10_mends_58 : decode cX10_mends 58 = .ok (.iaload, 1) := by decide +kernel
theorem dX10_mends_59 : decode cX10_mends 59 = .ok (.ireturn, 1) := by decide +kernel
theorem dX10_moves_0 : decode cX10_moves 0 = .ok (.iload_n 1, 1) := by decide +kernel
theorem dX10_moves_1 : decode cX10_moves 1 = .ok (.i2l, 1) := by decide +kernel
theorem dX10_moves_2 : decode cX10_moves 2 = .ok (.lconst 1, 1) := by decide +kernel
theorem dX10_moves_3 : decode cX10_moves 3 = .ok (.ldc2_w 211, 3) := by decide +kernel
theorem dX10_moves_6 : decode cX10_moves 6 = .ok (.invokestatic 81, 3) := by decide +kernel
theorem dX10_moves_9 : decode cX10_moves 9 = .ok (.ifCond .eq 15, 3) := by decide +kernel
theorem dX10_moves_12 : decode cX10_moves 12 = .ok (.iload_n 2, 1) := by decide +kernel
theorem dX10_moves_13 : decode cX10_moves 13 = .ok (.i2l, 1) := by decide +kernel
theorem dX10_moves_14 : decode cX10_moves 14 = .ok (.lconst 0, 1) := by decide +kernel
theorem dX10_moves_15 : decode cX10_moves 15 = .ok (.ldc2_w 213, 3) := by decide +kernel
theorem dX10_moves_18 : decode cX10_moves 18 = .ok (.invokestatic 81, 3) := by decide +kernel
theorem dX10_moves_21 : decode cX10_moves 21 = .ok (.ifCond .ne 5, 3) := by decide +kernel
theorem dX10_moves_24 : decode cX10_moves 24 = .ok (.iconst (-1), 1) := by decide +kernel
theorem dX10_moves_25 : decode cX10_moves 25 = .ok (.ireturn, 1) := by decide +kernel
theorem dX10_moves_26 : decode cX10_moves 26 = .ok (.aload_n 0, 1) := by decide +kernel
theorem dX10_moves_27 : decode cX10_moves 27 = .ok (.getfield 23, 3) := by decide +kernel
theorem dX10_moves_30 : decode cX10_moves 30 = .ok (.bipush 9, 2) := by decide +kernel
theorem dX10_moves_32 : decode cX10_moves 32 = .ok (.iaload, 1) := by decide +kernel
theorem dX10_moves_33 : decode cX10_moves 33 = .ok (.iload_n 1, 1) := by decide +kernel
theorem dX10_moves_34 : decode cX10_moves 34 = .ok (.if_icmp .ne 17, 3) := by decide +kernel
theorem dX10_moves_37 : decode cX10_moves 37 = .ok (.aload_n 0, 1) := by decide +kernel
theorem dX10_moves_38 : decode cX10_moves 38 = .ok (.getfield 23, 3) := by decide +kernel
theorem dX10_moves_41 : decode cX10_moves 41 = .ok (.bipush 10, 2) := by decide +kernel
theorem dX10_moves_43 : decode cX10_moves 43 = .ok (.iaload, 1) := by decide +kernel
theorem dX10_moves_44 : decode cX10_moves 44 = .ok (.iload_n 2, 1) := by decide +kernel
theorem dX10_moves_45 : decode cX10_moves 45 = .ok (.if_icmp .ne 6, 3) := by decide +kernel
theorem dX10_moves_48 : decode cX10_moves 48 = .ok (.bipush (-2), 2) := by decide +kernel
theorem dX10_moves_50 : decode cX10_moves 50 = .ok (.ireturn, 1) := by decide +kernel
theorem dX10_moves_51 : decode cX10_moves 51 = .ok (.aload_n 0, 1) := by decide +kernel
theorem dX10_moves_52 : decode cX10_moves 52 = .ok (.invokevirtual 204, 3) := by decide +kernel
theorem dX10_moves_55 : decode cX10_moves 55 = .ok (.aload_n 0, 1) := by decide +kernel
theorem dX10_moves_56 : decode cX10_moves 56 = .ok (.getfield 23, 3) := by decide +kernel
theorem dX10_moves_59 : decode cX10_moves 59 = .ok (.bipush 9, 2) := by decide +kernel
theorem dX10_moves_61 : decode cX10_moves 61 = .ok (.iload_n 1, 1) := by decide +kernel
theorem dX10_moves_62 : decode cX10_moves 62 = .ok (.iastore, 1) := by decide +kernel
theorem dX10_moves_63 : decode cX10_moves 63 = .ok (.aload_n 0, 1) := by decide +kernel
theorem dX10_moves_64 : decode cX10_moves 64 = .ok (.getfield 23, 3) := by decide +kernel
theorem dX10_moves_67 : decode cX10_moves 67 = .ok (.bipush 10, 2) := by decide +kernel
theorem dX10_moves_69 : decode cX10_moves 69 = .ok (.iload_n 2, 1) := by decide +kernel
theorem dX10_moves_70 : decode cX10_moves 70 = .ok (.iastore, 1) := by decide +kernel
theorem dX10_moves_71 : decode cX10_moves 71 = .ok (.iconst 0, 1) := by decide +kernel
theorem dX10_moves_72 : decode cX10_moves 72 = .ok (.istore_n 3, 1) := by decide +kernel
theorem dX10_moves_73 : decode cX10_moves 73 = .ok (.iconst 0, 1) := by decide +kernel
theorem dX10_moves_74 : decode cX10_moves 74 = .ok (.istore 4, 2) := by decide +kernel
theorem dX10_moves_76 : decode cX10_moves 76 = .ok (.iload 4, 2) := by decide +kernel
theorem dX10_moves_78 : decode cX10_moves 78 = .ok (.aload_n 0, 1) := by decide +kernel
theorem dX10_moves_79 : decode cX10_moves 79 = .ok (.getfield 7, 3) := by decide +kernel
theorem dX10_moves_82 : decode cX10_moves 82 = .ok (.if_icmp .ge 37, 3) := by decide +kernel
theorem dX10_moves_85 : decode cX10_moves 85 = .ok (.iload_n 3, 1) := by decide +kernel
theorem dX10_moves_86 : decode cX10_moves 86 = .ok (.iload 4, 2) := by decide +kernel
theorem dX10_moves_88 : decode cX10_moves 88 = .ok (.iload_n 1, 1) := by decide +kernel
theorem dX10_moves_89 : decode cX10_moves 89 = .ok (.if_icmp .lt 21, 3) := by decide +kernel
theorem dX10_moves_92 : decode cX10_moves 92 = .ok (.iconst 2, 1) := by decide +kernel
theorem dX10_moves_93 : decode cX10_moves 93 = .ok (.iload_n 1, 1) := by decide +kernel
theorem dX10_moves_94 : decode cX10_moves 94 = .ok (.imul, 1) := by decide +kernel
theorem dX10_moves_95 : decode cX10_moves 95 = .ok (.iconst 1, 1) := by decide +kernel
theorem dX10_moves_96 : decode cX10_moves 96 = .ok (.isub, 1) := by decide +kernel
theorem dX10_moves_97 : decode cX10_moves 97 = .ok (.iload 4, 2) := by decide +kernel
theorem dX10_moves_99 : decode cX10_moves 99 = .ok (.isub, 1) := by decide +kernel
theorem dX10_moves_100 : decode cX10_moves 100 = .ok (.ifCond .ge 10, 3) := by decide +kernel
theorem dX10_moves_103 : decode cX10_moves 103 = .ok (.aload_n 0, 1) := by decide +kernel
theorem dX10_moves_104 : decode cX10_moves 104 = .ok (.getfield 13, 3) := by decide +kernel
theorem dX10_moves_107 : decode cX10_moves 107 = .ok (.goto 4, 3) := by decide +kernel
theorem dX10_moves_110 : decode cX10_moves 110 = .ok (.iconst 0, 1) := by decide +kernel
theorem dX10_moves_111 : decode cX10_moves 111 = .ok (.iadd, 1) := by decide +kernel
theorem dX10_moves_112 : decode cX10_moves 112 = .ok (.istore_n 3, 1) := by decide +kernel
theorem dX10_moves_113 : decode cX10_moves 113 = .ok (.iinc 4 1, 3) := by decide +kernel
theorem dX10_moves_116 : decode cX10_moves 116 = .ok (.goto (-40), 3) := by decide +kernel
theorem dX10_moves_119 : decode cX10_moves 119 = .ok (.iload_n 3, 1) := by decide +kernel
theorem dX10_moves_120 : decode cX10_moves 120 = .ok (.ireturn, 1) := by decide +kernel
theorem dX10_undo_0 : decode cX10_undo 0 = .ok (.aload_n 0, 1) := by decide +kernel
theorem dX10_undo_1 : decode cX10_undo 1 = .ok (.getfield 73, 3) := by decide +kernel
theorem dX10_undo_4 : decode cX10_undo 4 = .ok (.ifCond .ne 6, 3) := by decide +kernel
theorem dX10_undo_7 : decode cX10_undo 7 = .ok (.bipush (-2), 2) := by decide +kernel
theorem dX10_undo_9 : decode cX10_undo 9 = .ok (.ireturn, 1) := by decide +kernel
theorem dX10_undo_10 : decode cX10_undo 10 = .ok (.aload_n 0, 1) := by decide +kernel
theorem dX10_undo_11 : decode cX10_undo 11 = .ok (.dup, 1) := by decide +kernel
theorem dX10_undo_12 : decode cX10_undo 12 = .ok (.getfield 73, 3) := by decide +kernel
theorem dX10_undo_15 : decode cX10_undo 15 = .ok (.iconst 1, 1) := by decide +kernel
theorem dX10_undo_16 : decode cX10_undo 16 = .ok (.isub, 1) := by decide +kernel
theorem dX10_undo_17 : decode cX10_undo 17 = .ok (.putfield 73, 3) := by decide +kernel
theorem dX10_undo_20 : decode cX10_undo 20 = .ok (.aload_n 0, 1) := by decide +kernel
theorem dX10_undo_21 : decode cX10_undo 21 = .ok (.getfield 29, 3) := by decide +kernel
theorem dX10_undo_24 : decode cX10_undo 24 = .ok (.bipush 11, 2) := by decide +kernel
theorem dX10_undo_26 : decode cX10_undo 26 = .ok (.aload_n 0, 1) := by decide +kernel
theorem dX10_undo_27 : decode cX10_undo 27 = .ok (.getfield 73, 3) := by decide +kernel
theorem dX10_undo_30 : decode cX10_undo 30 = .ok (.imul, 1) := by decide +kernel
theorem dX10_undo_31 : decode cX10_undo 31 = .ok (.aload_n 0, 1) := by decide +kernel
theorem dX10_undo_32 : decode cX10_undo 32 = .ok (.getfield 23, 3) := by decide +kernel
theorem dX10_undo_35 : decode cX10_undo 35 = .ok (.iconst 0, 1) := by decide +kernel
theorem dX10_undo_36 : decode cX10_undo 36 = .ok (.bipush 11, 2) := by decide +kernel
theorem dX10_undo_38 : decode cX10_undo 38 = .ok (.invokestatic 162, 3) := by decide +kernel
theorem dX10_undo_41 : decode cX10_undo 41 = .ok (.aload_n 0, 1) := by decide +kernel
theorem dX10_undo_42 : decode cX10_undo 42 = .ok (.getfield 73, 3) := by decide +kernel
theorem dX10_undo_45 : decode cX10_undo 45 = .ok (.ireturn, 1) := by decide +kernel
theorem dX10_layColours_0 : decode cX10_layColours 0 = .ok (.iconst 0, 1) := by decide +kernel
theorem dX10_layColours_1 : decode cX10_layColours 1 = .ok (.istore_n 1, 1) := by decide +kernel
theorem dX10_layColours_2 : decode cX10_layColours 2 = .ok (.iload_n 1, 1) := by decide +kernel
theorem dX10_layColours_3 : decode cX10_layColours 3 = .ok (.bipush 20, 2) := by decide +kernel
theorem dX10_layColours_5 : decode cX10_layColours 5 = .ok (.if_icmp .ge 40, 3) := by decide +kernel
theorem dX10_layColours_8 : decode cX10_layColours 8 = .ok (.aload_n 0, 1) := by decide +kernel
theorem dX10_layColours_9 : decode cX10_layColours 9 = .ok (.getfield 57, 3) := by decide +kernel
theorem dX10_layColours_12 : decode cX10_layColours 12 = .ok (.iload_n 1, 1) := by decide +kernel
theorem dX10_layColours_13 : decode cX10_layColours 13 = .ok (.aload_n 0, 1) := by decide +kernel
theorem dX10_layColours_14 : decode cX10_layColours 14 = .ok (.getfield 23, 3) := by decide +kernel
theorem dX10_layColours_17 : decode cX10_layColours 17 = .ok (.bipush 8, 2) := by decide +kernel
theorem dX10_layColours_19 : decode cX10_layColours 19 = .ok (.iaload, 1) := by decide +kernel
theorem dX10_layColours_20 : decode cX10_layColours 20 = .ok (.iload_n 1, 1) := by decide +kernel
theorem dX10_layColours_21 : decode cX10_layColours 21 = .ok (.invokestatic 172, 3) := by decide +kernel
theorem dX10_layColours_24 : decode cX10_layColours 24 = .ok (.ifCond .eq 8, 3) := by decide +kernel
theorem dX10_layColours_27 : decode cX10_layColours 27 = .ok (.bipush 7, 2) := by decide +kernel
theorem dX10_layColours_29 : decode cX10_layColours 29 = .ok (.goto 9, 3) := by decide +kernel
theorem dX10_layColours_32 : decode cX10_layColours 32 = .ok (.aload_n 0, 1) := by decide +kernel
theorem dX10_layColours_33 : decode cX10_layColours 33 = .ok (.getfield 16, 3) := by decide +kernel
theorem dX10_layColours_36 : decode cX10_layColours 36 = .ok (.iload_n 1, 1) := by decide +kernel
theorem dX10_layColours_37 : decode cX10_layColours 37 = .ok (.iaload, 1) := by decide +kernel
theorem dX10_layColours_38 : decode cX10_layColours 38 = .ok (.iastore, 1) := by decide +kernel
theorem dX10_layColours_39 : decode cX10_layColours 39 = .ok (.iinc 1 1, 3) := by decide +kernel
theorem dX10_layColours_42 : decode cX10_layColours 42 = .ok (.goto (-40), 3) := by decide +kernel
theorem dX10_layColours_45 : decode cX10_layColours 45 = .ok (.return_, 1) := by decide +kernel
theorem dX10_unlike_0 : decode cX10_unlike 0 = .ok (.aload_n 0, 1) := by decide +kernel
theorem dX10_unlike_1 : decode cX10_unlike 1 = .ok (.iload_n 3, 1) := by decide +kernel
theorem dX10_unlike_2 : decode cX10_unlike 2 = .ok (.iload 4, 2) := by decide +kernel
theorem dX10_unlike_4 : decode cX10_unlike 4 = .ok (.invokevirtual 183, 3) := by decide +kernel
theorem dX10_unlike_7 : decode cX10_unlike 7 = .ok (.ifCond .eq 31, 3) := by decide +kernel
theorem dX10_unlike_10 : decode cX10_unlike 10 = .ok (.aload_n 0, 1) := by decide +kernel
theorem dX10_unlike_11 : decode cX10_unlike 11 = .ok (.getfield 57, 3) := by decide +kernel
theorem dX10_unlike_14 : decode cX10_unlike 14 = .ok (.iconst 4, 1) := by decide +kernel
theorem dX10_unlike_15 : decode cX10_unlike 15 = .ok (.iload_n 1, 1) := by decide +kernel
theorem dX10_unlike_16 : decode cX10_unlike 16 = .ok (.imul, 1) := by decide +kernel
theorem dX10_unlike_17 : decode cX10_unlike 17 = .ok (.iload_n 2, 1) := by decide +kernel
theorem dX10_unlike_18 : decode cX10_unlike 18 = .ok (.iadd, 1) := by decide +kernel
theorem dX10_unlike_19 : decode cX10_unlike 19 = .ok (.iaload, 1) := by decide +kernel
theorem dX10_unlike_20 : decode cX10_unlike 20 = .ok (.aload_n 0, 1) := by decide +kernel
theorem dX10_unlike_21 : decode cX10_unlike 21 = .ok (.getfield 57, 3) := by decide +kernel
theorem dX10_unlike_24 : decode cX10_unlike 24 = .ok (.iconst 4, 1) := by decide +kernel
theorem dX10_unlike_25 : decode cX10_unlike 25 = .ok (.iload_n 3, 1) := by decide +kernel
theorem dX10_unlike_26 : decode cX10_unlike 26 = .ok (.imul, 1) := by decide +kernel
theorem dX10_unlike_27 : decode cX10_unlike 27 = .ok (.iload 4, 2) := by decide +kernel
theorem dX10_unlike_29 : decode cX10_unlike 29 = .ok (.iadd, 1) := by decide +kernel
theorem dX10_unlike_30 : decode cX10_unlike 30 = .ok (.iaload, 1) := by decide +kernel
theorem dX10_unlike_31 : decode cX10_unlike 31 = .ok (.if_icmp .eq 7, 3) := by decide +kernel
theorem dX10_unlike_34 : decode cX10_unlike 34 = .ok (.iconst 1, 1) := by decide +kernel
theorem dX10_unlike_35 : decode cX10_unlike 35 = .ok (.goto 4, 3) := by decide +kernel
theorem dX10_unlike_38 : decode cX10_unlike 38 = .ok (.iconst 0, 1) := by decide +kernel
theorem dX10_unlike_39 : decode cX10_unlike 39 = .ok (.ireturn, 1) := by decide +kernel
theorem dX10_leads_0 : decode cX10_leads 0 = .ok (.iconst 0, 1) := by decide +kernel
theorem dX10_leads_1 : decode cX10_leads 1 = .ok (.istore_n 1, 1) := by decide +kernel
theorem dX10_leads_2 : decode cX10_leads 2 = .ok (.iconst 0, 1) := by decide +kernel
theorem dX10_leads_3 : decode cX10_leads 3 = .ok (.istore_n 2, 1) := by decide +kernel
theorem dX10_leads_4 : decode cX10_leads 4 = .ok (.iload_n 2, 1) := by decide +kernel
theorem dX10_leads_5 : decode cX10_leads 5 = .ok (.aload_n 0, 1) := by decide +kernel
theorem dX10_leads_6 : decode cX10_leads 6 = .ok (.getfield 7, 3) := by decide +kernel
theorem dX10_leads_9 : decode cX10_leads 9 = .ok (.if_icmp .ge 67, 3) := by decide +kernel
theorem dX10_leads_12 : decode cX10_leads 12 = .ok (.iconst 0, 1) := by decide +kernel
theorem dX10_leads_13 : decode cX10_leads 13 = .ok (.istore_n 3, 1) := by decide +kernel
theorem dX10_leads_14 : decode cX10_leads 14 = .ok (.iload_n 3, 1) := by decide +kernel
theorem dX10_leads_15 : decode cX10_leads 15 = .ok (.aload_n 0, 1) := by decide +kernel
theorem dX10_leads_16 : decode cX10_leads 16 = .ok (.getfield 13, 3) := by decide +kernel
theorem dX10_leads_19 : decode cX10_leads 19 = .ok (.if_icmp .ge 51, 3) := by decide +kernel
theorem dX10_leads_22 : decode cX10_leads 22 = .ok (.iload_n 1, 1) := by decide +kernel
theorem dX10_leads_23 : decode cX10_leads 23 = .ok (.aload_n 0, 1) := by decide +kernel
theorem dX10_leads_24 : decode cX10_leads 24 = .ok (.iload_n 2, 1) := by decide +kernel
theorem dX10_leads_25 : decode cX10_leads 25 = .ok (.iload_n 3, 1) := by decide +kernel
theorem dX10_leads_26 : decode cX10_leads 26 = .ok (.iload_n 2, 1) := by decide +kernel
theorem dX10_leads_27 : decode cX10_leads 27 = .ok (.iconst 1, 1) := by decide +kernel
theorem dX10_leads_28 : decode cX10_leads 28 = .ok (.iadd, 1) := by decide +kernel
theorem dX10_leads_29 : decode cX10_leads 29 = .ok (.iload_n 3, 1) := by decide +kernel
theorem dX10_leads_30 : decode cX10_leads 30 = .ok (.invokevirtual 215, 3) := by decide +kernel
theorem dX10_leads_33 : decode cX10_leads 33 = .ok (.ifCond .eq 7, 3) := by decide +kernel
theorem dX10_leads_36 : decode cX10_leads 36 = .ok (.iconst 1, 1) := by decide +kernel
theorem dX10_leads_37 : decode cX10_leads 37 = .ok (.goto 4, 3) := by decide +kernel
theorem dX10_leads_40 : decode cX10_leads 40 = .ok (.iconst 0, 1) := by decide +kernel
theorem dX10_leads_41 : decode cX10_leads 41 = .ok (.iadd, 1) := by decide +kernel
theorem dX10_leads_42 : decode cX10_leads 42 = .ok (.istore_n 1, 1) := by decide +kernel
theorem dX10_leads_43 : decode cX10_leads 43 = .ok (.iload_n 1, 1) := by decide +kernel
theorem dX10_leads_44 : decode cX10_leads 44 = .ok (.aload_n 0, 1) := by decide +kernel
theorem dX10_leads_45 : decode cX10_leads 45 = .ok (.iload_n 2, 1) := by decide +kernel
theorem dX10_leads_46 : decode cX10_leads 46 = .ok (.iload_n 3, 1) := by decide +kernel
theorem dX10_leads_47 : decode cX10_leads 47 = .ok (.iload_n 2, 1) := by decide +kernel
theorem dX10_leads_48 : decode cX10_leads 48 = .ok (.iload_n 3, 1) := by decide +kernel
theorem dX10_leads_49 : decode cX10_leads 49 = .ok (.iconst 1, 1) := by decide +kernel
theorem dX10_leads_50 : decode cX10_leads 50 = .ok (.iadd, 1) := by decide +kernel
theorem dX10_leads_51 : decode cX10_leads 51 = .ok (.invokevirtual 215, 3) := by decide +kernel
theorem dX10_leads_54 : decode cX10_leads 54 = .ok (.ifCond .eq 7, 3) := by decide +kernel
theorem dX10_leads_57 : decode cX10_leads 57 = .ok (.iconst 1, 1) := by decide +kernel
theorem dX10_leads_58 : decode cX10_leads 58 = .ok (.goto 4, 3) := by decide +kernel
theorem dX10_leads_61 : decode cX10_leads 61 = .ok (.iconst 0, 1) := by decide +kernel
theorem dX10_leads_62 : decode cX10_leads 62 = .ok (.iadd, 1) := by decide +kernel
theorem dX10_leads_63 : decode cX10_leads 63 = .ok (.istore_n 1, 1) := by decide +kernel
theorem dX10_leads_64 : decode cX10_leads 64 = .ok (.iinc 3 1, 3) := by decide +kernel
theorem dX10_leads_67 : decode cX10_leads 67 = .ok (.goto (-53), 3) := by decide +kernel
theorem dX10_leads_70 : decode cX10_leads 70 = .ok (.iinc 2 1, 3) := by decide +kernel
theorem dX10_leads_73 : decode cX10_leads 73 = .ok (.goto (-69), 3) := by decide +kernel
theorem dX10_leads_76 : decode cX10_leads 76 = .ok (.iload_n 1, 1) := by decide +kernel
theorem dX10_leads_77 : decode cX10_leads 77 = .ok (.ireturn, 1) := by decide +kernel
theorem dX10_partFrom_0 : decode cX10_partFrom 0 = .ok (.aload_n 0, 1) := by decide +kernel
theorem dX10_partFrom_1 : decode cX10_partFrom 1 = .ok (.getfield 57, 3) := by decide +kernel
theorem dX10_partFrom_4 : decode cX10_partFrom 4 = .ok (.iload_n 1, 1) := by decide +kernel
theorem dX10_partFrom_5 : decode cX10_partFrom 5 = .ok (.iaload, 1) := by decide +kernel
theorem dX10_partFrom_6 : decode cX10_partFrom 6 = .ok (.istore_n 2, 1) := by decide +kernel
theorem dX10_partFrom_7 : decode cX10_partFrom 7 = .ok (.iconst 1, 1) := by decide +kernel
theorem dX10_partFrom_8 : decode cX10_partFrom 8 = .ok (.istore_n 3, 1) := by decide +kernel
theorem dX10_partFrom_9 : decode cX10_partFrom 9 = .ok (.aload_n 0, 1) := by decide +kernel
theorem dX10_partFrom_10 : decode cX10_partFrom 10 = .ok (.getfield 60, 3) := by decide +kernel
theorem dX10_partFrom_13 : decode cX10_partFrom 13 = .ok (.iconst 0, 1) := by decide +kernel
theorem dX10_partFrom_14 : decode cX10_partFrom 14 = .ok (.iload_n 1, 1) := by decide +kernel
theorem dX10_partFrom_15 : decode cX10_partFrom 15 = .ok (.iastore, 1) := by decide +kernel
theorem dX10_partFrom_16 : decode cX10_partFrom 16 = .ok (.aload_n 0, 1) := by decide +kernel
theorem dX10_partFrom_17 : decode cX10_partFrom 17 = .ok (.getfield 57, 3) := by decide +kernel
theorem dX10_partFrom_20 : decode cX10_partFrom 20 = .ok (.iload_n 1, 1) := by decide +kernel
theorem dX10_partFrom_21 : decode cX10_partFrom 21 = .ok (.iconst (-1), 1) := by decide +kernel
theorem dX10_partFrom_22 : decode cX10_partFrom 22 = .ok (.iastore, 1) := by decide +kernel
theorem dX10_partFrom_23 : decode cX10_partFrom 23 = .ok (.iconst 0, 1) := by decide +kernel
theorem dX10_partFrom_24 : decode cX10_partFrom 24 = .ok (.istore 4, 2) := by decide +kernel
theorem dX10_partFrom_26 : decode cX10_partFrom 26 = .ok (.iload 4, 2) := by decide +kernel
theorem dX10_partFrom_28 : decode cX10_partFrom 28 = .ok (.iload_n 3, 1) := by decide +kernel
theorem dX10_partFrom_29 : decode cX10_partFrom 29 = .ok (.if_icmp .ge 145, 3) := by decide +kernel
theorem dX10_partFrom_32 : decode cX10_partFrom 32 = .ok (.iconst 0, 1) := by decide +kernel
theorem dX10_partFrom_33 : decode cX10_partFrom 33 = .ok (.istore 5, 2) := by decide +kernel
theorem dX10_partFrom_35 : decode cX10_partFrom 35 = .ok (.iload 5, 2) := by decide +kernel
theorem dX10_partFrom_37 : decode cX10_partFrom 37 = .ok (.iconst 4, 1) := by decide +kernel
theorem dX10_partFrom_38 : decode cX10_partFrom 38 = .ok (.if_icmp .ge 130, 3) := by decide +kernel
theorem dX10_partFrom_41 : decode cX10_partFrom 41 = .ok (.aload_n 0, 1) := by decide +kernel
theorem dX10_partFrom_42 : decode cX10_partFrom 42 = .ok (.getfield 60, 3) := by decide +kernel
theorem dX10_partFrom_45 : decode cX10_partFrom 45 = .ok (.iload 4, 2) := by decide +kernel
theorem dX10_partFrom_47 : decode cX10_partFrom 47 = .ok (.iaload, 1) := by decide +kernel
theorem dX10_partFrom_48 : decode cX10_partFrom 48 = .ok (.iconst 4, 1) := by decide +kernel
theorem dX10_partFrom_49 : decode cX10_partFrom 49 = .ok (.idiv, 1) := by decide +kernel
theorem dX10_partFrom_50 : decode cX10_partFrom 50 = .ok (.iload 5, 2) := by decide +kernel
theorem dX10_partFrom_52 : decode cX10_partFrom 52 = .ok (.ifCond .ne 7, 3) := by decide +kernel
theorem dX10_partFrom_55 : decode cX10_partFrom 55 = .ok (.iconst 1, 1) := by decide +kernel
theorem dX10_partFrom_56 : decode cX10_partFrom 56 = .ok (.goto 14, 3) := by decide +kernel
theorem dX10_partFrom_59 : decode cX10_partFrom 59 = .ok (.iload 5, 2) := by decide +kernel
theorem dX10_partFrom_61 : decode cX10_partFrom 61 = .ok (.iconst 1, 1) := by decide +kernel
theorem dX10_partFrom_62 : decode cX10_partFrom 62 = .ok (.if_icmp .ne 7, 3) := by decide +kernel
theorem dX10_partFrom_65 : decode cX10_partFrom 65 = .ok (.iconst (-1), 1) := by decide +kernel
theorem dX10_partFrom_66 : decode cX10_partFrom 66 = .ok (.goto 4, 3) := by decide +kernel
theorem dX10_partFrom_69 : decode cX10_partFrom 69 = .ok (.iconst 0, 1) := by decide +kernel
theorem dX10_partFrom_70 : decode cX10_partFrom 70 = .ok (.iadd, 1) := by decide +kernel
theorem dX10_partFrom_71 : decode cX10_partFrom 71 = .ok (.istore 6, 2) := by decide +kernel
theorem dX10_partFrom_73 : decode cX10_partFrom 73 = .ok (.aload_n 0, 1) := by decide +kernel
theorem dX10_partFrom_74 : decode cX10_partFrom 74 = .ok (.getfield 60, 3) := by decide +kernel
theorem dX10_partFrom_77 : decode cX10_partFrom 77 = .ok (.iload 4, 2) := by decide +kernel
theorem dX10_partFrom_79 : decode cX10_partFrom 79 = .ok (.iaload, 1) := by decide +kernel
theorem dX10_partFrom_80 : decode cX10_partFrom 80 = .ok (.iconst 4, 1) := by decide +kernel
theorem dX10_partFrom_81 : decode cX10_partFrom 81 = .ok (.irem, 1) := by decide +kernel
theorem dX10_partFrom_82 : decode cX10_partFrom 82 = .ok (.iload 5, 2) := by decide +kernel
theorem dX10_partFrom_84 : decode cX10_partFrom 84 = .ok (.iconst 2, 1) := by decide +kernel
theorem dX10_partFrom_85 : decode cX10_partFrom 85 = .ok (.if_icmp .ne 7, 3) := by decide +kernel
theorem dX10_partFrom_88 : decode cX10_partFrom 88 = .ok (.iconst 1, 1) := by decide +kernel
theorem dX10_partFrom_89 : decode cX10_partFrom 89 = .ok (.goto 14, 3) := by decide +kernel
theorem dX10_partFrom_92 : decode cX10_partFrom 92 = .ok (.iload 5, 2) := by decide +kernel
theorem dX10_partFrom_94 : decode cX10_partFrom 94 = .ok (.iconst 3, 1) := by decide +kernel
theorem dX10_partFrom_95 : decode cX10_partFrom 95 = .ok (.if_icmp .ne 7, 3) := by decide +kernel
theorem dX10_partFrom_98 : decode cX10_partFrom 98 = .ok (.iconst (-1), 1) := by decide +kernel
theorem dX10_partFrom_99 : decode cX10_partFrom 99 = .ok (.goto 4, 3) := by decide +kernel
theorem dX10_partFrom_102 : decode cX10_partFrom 102 = .ok (.iconst 0, 1) := by decide +kernel
theorem dX10_partFrom_103 : decode cX10_partFrom 103 = .ok (.iadd, 1) := by decide +kernel
theorem dX10_partFrom_104 : decode cX10_partFrom 104 = .ok (.istore 7, 2) := by decide +kernel
theorem dX10_partFrom_106 : decode cX10_partFrom 106 = .ok (.aload_n 0, 1) := by decide +kernel
theorem dX10_partFrom_107 : decode cX10_partFrom 107 = .ok (.iload 6, 2) := by decide +kernel
theorem dX10_partFrom_109 : decode cX10_partFrom 109 = .ok (.iload 7, 2) := by decide +kernel
theorem dX10_partFrom_111 : decode cX10_partFrom 111 = .ok (.invokevirtual 183, 3) := by decide +kernel
theorem dX10_partFrom_114 : decode cX10_partFrom 114 = .ok (.ifCond .eq 48, 3) := by decide +kernel
theorem dX10_partFrom_117 : decode cX10_partFrom 117 = .ok (.aload_n 0, 1) := by decide +kernel
theorem dX10_partFrom_118 : decode cX10_partFrom 118 = .ok (.getfield 57, 3) := by decide +kernel
theorem dX10_partFrom_121 : decode cX10_partFrom 121 = .ok (.iconst 4, 1) := by decide +kernel
theorem dX10_partFrom_122 : decode cX10_partFrom 122 = .ok (.iload 6, 2) := by decide +kernel
theorem dX10_partFrom_124 : decode cX10_partFrom 124 = .ok (.imul, 1) := by decide +kernel
theorem dX10_partFrom_125 : decode cX10_partFrom 125 = .ok (.iload 7, 2) := by decide +kernel
theorem dX10_partFrom_127 : decode cX10_partFrom 127 = .ok (.iadd, 1) := by decide +kernel
theorem dX10_partFrom_128 : decode cX10_partFrom 128 = .ok (.iaload, 1) := by decide +kernel
theorem dX10_partFrom_129 : decode cX10_partFrom 129 = .ok (.iload_n 2, 1) := by decide +kernel
theorem dX10_partFrom_130 : decode cX10_partFrom 130 = .ok (.if_icmp .ne 32, 3) := by decide +kernel
theorem dX10_partFrom_133 : decode cX10_partFrom 133 = .ok (.aload_n 0, 1) := by decide +kernel
theorem dX10_partFrom_134 : decode cX10_partFrom 134 = .ok (.getfield 57, 3) := by decide +kernel
theorem dX10_partFrom_137 : decode cX10_partFrom 137 = .ok (.iconst 4, 1) := by decide +kernel
