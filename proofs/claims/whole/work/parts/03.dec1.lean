theorem dX0_leads_0 : decode cX0_leads 0 = .ok (.iconst 0, 1) := by decide +kernel
theorem dX0_leads_1 : decode cX0_leads 1 = .ok (.istore_n 1, 1) := by decide +kernel
theorem dX0_leads_2 : decode cX0_leads 2 = .ok (.iconst 0, 1) := by decide +kernel
theorem dX0_leads_3 : decode cX0_leads 3 = .ok (.istore_n 2, 1) := by decide +kernel
theorem dX0_leads_4 : decode cX0_leads 4 = .ok (.iload_n 2, 1) := by decide +kernel
theorem dX0_leads_5 : decode cX0_leads 5 = .ok (.bipush 20, 2) := by decide +kernel
theorem dX0_leads_7 : decode cX0_leads 7 = .ok (.if_icmp .ge 30, 3) := by decide +kernel
theorem dX0_leads_10 : decode cX0_leads 10 = .ok (.aload_n 0, 1) := by decide +kernel
theorem dX0_leads_11 : decode cX0_leads 11 = .ok (.iload_n 2, 1) := by decide +kernel
theorem dX0_leads_12 : decode cX0_leads 12 = .ok (.invokevirtual 9, 3) := by decide +kernel
theorem dX0_leads_15 : decode cX0_leads 15 = .ok (.ifCond .eq 16, 3) := by decide +kernel
theorem dX0_leads_18 : decode cX0_leads 18 = .ok (.iload_n 1, 1) := by decide +kernel
theorem dX0_leads_19 : decode cX0_leads 19 = .ok (.aload_n 0, 1) := by decide +kernel
theorem dX0_leads_20 : decode cX0_leads 20 = .ok (.iload_n 2, 1) := by decide +kernel
theorem dX0_leads_21 : decode cX0_leads 21 = .ok (.aload_n 0, 1) := by decide +kernel
theorem dX0_leads_22 : decode cX0_leads 22 = .ok (.iload_n 2, 1) := by decide +kernel
theorem dX0_leads_23 : decode cX0_leads 23 = .ok (.invokevirtual 15, 3) := by decide +kernel
theorem dX0_leads_26 : decode cX0_leads 26 = .ok (.invokestatic 19, 3) := by decide +kernel
theorem dX0_leads_29 : decode cX0_leads 29 = .ok (.iadd, 1) := by decide +kernel
theorem dX0_leads_30 : decode cX0_leads 30 = .ok (.istore_n 1, 1) := by decide +kernel
theorem dX0_leads_31 : decode cX0_leads 31 = .ok (.iinc 2 1, 3) := by decide +kernel
theorem dX0_leads_34 : decode cX0_leads 34 = .ok (.goto (-30), 3) := by decide +kernel
theorem dX0_leads_37 : decode cX0_leads 37 = .ok (.iload_n 1, 1) := by decide +kernel
theorem dX0_leads_38 : decode cX0_leads 38 = .ok (.iconst 2, 1) := by decide +kernel
theorem dX0_leads_39 : decode cX0_leads 39 = .ok (.idiv, 1) := by decide +kernel
theorem dX0_leads_40 : decode cX0_leads 40 = .ok (.ireturn, 1) := by decide +kernel
theorem dX0_leadsPainted_0 : decode cX0_leadsPainted 0 = .ok (.aload_n 0, 1) := by decide +kernel
theorem dX0_leadsPainted_1 : decode cX0_leadsPainted 1 = .ok (.invokestatic 25, 3) := by decide +kernel
theorem dX0_leadsPainted_4 : decode cX0_leadsPainted 4 = .ok (.aload_n 0, 1) := by decide +kernel
theorem dX0_leadsPainted_5 : decode cX0_leadsPainted 5 = .ok (.iload_n 1, 1) := by decide +kernel
theorem dX0_leadsPainted_6 : decode cX0_leadsPainted 6 = .ok (.iload_n 2, 1) := by decide +kernel
theorem dX0_leadsPainted_7 : decode cX0_leadsPainted 7 = .ok (.invokestatic 29, 3) := by decide +kernel
theorem dX0_leadsPainted_10 : decode cX0_leadsPainted 10 = .ok (.iadd, 1) := by decide +kernel
theorem dX0_leadsPainted_11 : decode cX0_leadsPainted 11 = .ok (.ireturn, 1) := by decide +kernel
theorem dX0_bestPaint_0 : decode cX0_bestPaint 0 = .ok (.bipush (-9), 2) := by decide +kernel
theorem dX0_bestPaint_2 : decode cX0_bestPaint 2 = .ok (.istore_n 1, 1) := by decide +kernel
theorem dX0_bestPaint_3 : decode cX0_bestPaint 3 = .ok (.bipush 20, 2) := by decide +kernel
theorem dX0_bestPaint_5 : decode cX0_bestPaint 5 = .ok (.istore_n 2, 1) := by decide +kernel
theorem dX0_bestPaint_6 : decode cX0_bestPaint 6 = .ok (.iconst 0, 1) := by decide +kernel
theorem dX0_bestPaint_7 : decode cX0_bestPaint 7 = .ok (.istore_n 3, 1) := by decide +kernel
theorem dX0_bestPaint_8 : decode cX0_bestPaint 8 = .ok (.iload_n 3, 1) := by decide +kernel
theorem dX0_bestPaint_9 : decode cX0_bestPaint 9 = .ok (.sipush 160, 3) := by decide +kernel
theorem dX0_bestPaint_12 : decode cX0_bestPaint 12 = .ok (.if_icmp .ge 65, 3) := by decide +kernel
theorem dX0_bestPaint_15 : decode cX0_bestPaint 15 = .ok (.iload_n 3, 1) := by decide +kernel
theorem dX0_bestPaint_16 : decode cX0_bestPaint 16 = .ok (.bipush 8, 2) := by decide +kernel
theorem dX0_bestPaint_18 : decode cX0_bestPaint 18 = .ok (.idiv, 1) := by decide +kernel
theorem dX0_bestPaint_19 : decode cX0_bestPaint 19 = .ok (.istore 4, 2) := by decide +kernel
theorem dX0_bestPaint_21 : decode cX0_bestPaint 21 = .ok (.iload_n 3, 1) := by decide +kernel
theorem dX0_bestPaint_22 : decode cX0_bestPaint 22 = .ok (.bipush 8, 2) := by decide +kernel
theorem dX0_bestPaint_24 : decode cX0_bestPaint 24 = .ok (.irem, 1) := by decide +kernel
theorem dX0_bestPaint_25 : decode cX0_bestPaint 25 = .ok (.istore 5, 2) := by decide +kernel
theorem dX0_bestPaint_27 : decode cX0_bestPaint 27 = .ok (.aload_n 0, 1) := by decide +kernel
theorem dX0_bestPaint_28 : decode cX0_bestPaint 28 = .ok (.iload 4, 2) := by decide +kernel
theorem dX0_bestPaint_30 : decode cX0_bestPaint 30 = .ok (.invokevirtual 9, 3) := by decide +kernel
theorem dX0_bestPaint_33 : decode cX0_bestPaint 33 = .ok (.ifCond .eq 38, 3) := by decide +kernel
theorem dX0_bestPaint_36 : decode cX0_bestPaint 36 = .ok (.aload_n 0, 1) := by decide +kernel
theorem dX0_bestPaint_37 : decode cX0_bestPaint 37 = .ok (.iload 4, 2) := by decide +kernel
theorem dX0_bestPaint_39 : decode cX0_bestPaint 39 = .ok (.invokevirtual 15, 3) := by decide +kernel
theorem dX0_bestPaint_42 : decode cX0_bestPaint 42 = .ok (.iload 5, 2) := by decide +kernel
theorem dX0_bestPaint_44 : decode cX0_bestPaint 44 = .ok (.if_icmp .ne 6, 3) := by decide +kernel
theorem dX0_bestPaint_47 : decode cX0_bestPaint 47 = .ok (.goto 24, 3) := by decide +kernel
theorem dX0_bestPaint_50 : decode cX0_bestPaint 50 = .ok (.aload_n 0, 1) := by decide +kernel
theorem dX0_bestPaint_51 : decode cX0_bestPaint 51 = .ok (.iload 4, 2) := by decide +kernel
theorem dX0_bestPaint_53 : decode cX0_bestPaint 53 = .ok (.iload 5, 2) := by decide +kernel
theorem dX0_bestPaint_55 : decode cX0_bestPaint 55 = .ok (.invokestatic 29, 3) := by decide +kernel
theorem dX0_bestPaint_58 : decode cX0_bestPaint 58 = .ok (.istore 6, 2) := by decide +kernel
theorem dX0_bestPaint_60 : decode cX0_bestPaint 60 = .ok (.iload 6, 2) := by decide +kernel
theorem dX0_bestPaint_62 : decode cX0_bestPaint 62 = .ok (.iload_n 2, 1) := by decide +kernel
theorem dX0_bestPaint_63 : decode cX0_bestPaint 63 = .ok (.if_icmp .ge 8, 3) := by decide +kernel
theorem dX0_bestPaint_66 : decode cX0_bestPaint 66 = .ok (.iload 6, 2) := by decide +kernel
theorem dX0_bestPaint_68 : decode cX0_bestPaint 68 = .ok (.istore_n 2, 1) := by decide +kernel
theorem dX0_bestPaint_69 : decode cX0_bestPaint 69 = .ok (.iload_n 3, 1) := by decide +kernel
theorem dX0_bestPaint_70 : decode cX0_bestPaint 70 = .ok (.istore_n 1, 1) := by decide +kernel
theorem dX0_bestPaint_71 : decode cX0_bestPaint 71 = .ok (.iinc 3 1, 3) := by decide +kernel
theorem dX0_bestPaint_74 : decode cX0_bestPaint 74 = .ok (.goto (-66), 3) := by decide +kernel
theorem dX0_bestPaint_77 : decode cX0_bestPaint 77 = .ok (.iload_n 1, 1) := by decide +kernel
theorem dX0_bestPaint_78 : decode cX0_bestPaint 78 = .ok (.ireturn, 1) := by decide +kernel
theorem dX0_addedBy_0 : decode cX0_addedBy 0 = .ok (.aload_n 0, 1) := by decide +kernel
theorem dX0_addedBy_1 : decode cX0_addedBy 1 = .ok (.iload_n 1, 1) := by decide +kernel
theorem dX0_addedBy_2 : decode cX0_addedBy 2 = .ok (.iload_n 2, 1) := by decide +kernel
theorem dX0_addedBy_3 : decode cX0_addedBy 3 = .ok (.invokestatic 19, 3) := by decide +kernel
theorem dX0_addedBy_6 : decode cX0_addedBy 6 = .ok (.aload_n 0, 1) := by decide +kernel
theorem dX0_addedBy_7 : decode cX0_addedBy 7 = .ok (.iload_n 1, 1) := by decide +kernel
theorem dX0_addedBy_8 : decode cX0_addedBy 8 = .ok (.aload_n 0, 1) := by decide +kernel
theorem dX0_addedBy_9 : decode cX0_addedBy 9 = .ok (.iload_n 1, 1) := by decide +kernel
theorem dX0_addedBy_10 : decode cX0_addedBy 10 = .ok (.invokevirtual 15, 3) := by decide +kernel
theorem dX0_addedBy_13 : decode cX0_addedBy 13 = .ok (.invokestatic 19, 3) := by decide +kernel
theorem dX0_addedBy_16 : decode cX0_addedBy 16 = .ok (.isub, 1) := by decide +kernel
theorem dX0_addedBy_17 : decode cX0_addedBy 17 = .ok (.ireturn, 1) := by decide +kernel
theorem dX0_unlikeBeside_0 : decode cX0_unlikeBeside 0 = .ok (.iload_n 1, 1) := by decide +kernel
theorem dX0_unlikeBeside_1 : decode cX0_unlikeBeside 1 = .ok (.iconst 4, 1) := by decide +kernel
theorem dX0_unlikeBeside_2 : decode cX0_unlikeBeside 2 = .ok (.idiv, 1) := by decide +kernel
theorem dX0_unlikeBeside_3 : decode cX0_unlikeBeside 3 = .ok (.istore_n 3, 1) := by decide +kernel
theorem dX0_unlikeBeside_4 : decode cX0_unlikeBeside 4 = .ok (.iload_n 1, 1) := by decide +kernel
theorem dX0_unlikeBeside_5 : decode cX0_unlikeBeside 5 = .ok (.iconst 4, 1) := by decide +kernel
theorem dX0_unlikeBeside_6 : decode cX0_unlikeBeside 6 = .ok (.irem, 1) := by decide +kernel
theorem dX0_unlikeBeside_7 : decode cX0_unlikeBeside 7 = .ok (.istore 4, 2) := by decide +kernel
theorem dX0_unlikeBeside_9 : decode cX0_unlikeBeside 9 = .ok (.aload_n 0, 1) := by decide +kernel
theorem dX0_unlikeBeside_10 : decode cX0_unlikeBeside 10 = .ok (.aload_n 0, 1) := by decide +kernel
theorem dX0_unlikeBeside_11 : decode cX0_unlikeBeside 11 = .ok (.iload_n 3, 1) := by decide +kernel
theorem dX0_unlikeBeside_12 : decode cX0_unlikeBeside 12 = .ok (.iconst 1, 1) := by decide +kernel
theorem dX0_unlikeBeside_13 : decode cX0_unlikeBeside 13 = .ok (.isub, 1) := by decide +kernel
theorem dX0_unlikeBeside_14 : decode cX0_unlikeBeside 14 = .ok (.iload 4, 2) := by decide +kernel
theorem dX0_unlikeBeside_16 : decode cX0_unlikeBeside 16 = .ok (.invokevirtual 32, 3) := by decide +kernel
theorem dX0_unlikeBeside_19 : decode cX0_unlikeBeside 19 = .ok (.iload_n 2, 1) := by decide +kernel
theorem dX0_unlikeBeside_20 : decode cX0_unlikeBeside 20 = .ok (.invokestatic 36, 3) := by decide +kernel
theorem dX0_unlikeBeside_23 : decode cX0_unlikeBeside 23 = .ok (.aload_n 0, 1) := by decide +kernel
theorem dX0_unlikeBeside_24 : decode cX0_unlikeBeside 24 = .ok (.aload_n 0, 1) := by decide +kernel
theorem dX0_unlikeBeside_25 : decode cX0_unlikeBeside 25 = .ok (.iload_n 3, 1) := by decide +kernel
theorem dX0_unlikeBeside_26 : decode cX0_unlikeBeside 26 = .ok (.iconst 1, 1) := by decide +kernel
theorem dX0_unlikeBeside_27 : decode cX0_unlikeBeside 27 = .ok (.iadd, 1) := by decide +kernel
theorem dX0_unlikeBeside_28 : decode cX0_unlikeBeside 28 = .ok (.iload 4, 2) := by decide +kernel
theorem dX0_unlikeBeside_30 : decode cX0_unlikeBeside 30 = .ok (.invokevirtual 32, 3) := by decide +kernel
theorem dX0_unlikeBeside_33 : decode cX0_unlikeBeside 33 = .ok (.iload_n 2, 1) := by decide +kernel
theorem dX0_unlikeBeside_34 : decode cX0_unlikeBeside 34 = .ok (.invokestatic 36, 3) := by decide +kernel
theorem dX0_unlikeBeside_37 : decode cX0_unlikeBeside 37 = .ok (.iadd, 1) := by decide +kernel
theorem dX0_unlikeBeside_38 : decode cX0_unlikeBeside 38 = .ok (.aload_n 0, 1) := by decide +kernel
theorem dX0_unlikeBeside_39 : decode cX0_unlikeBeside 39 = .ok (.aload_n 0, 1) := by decide +kernel
theorem dX0_unlikeBeside_40 : decode cX0_unlikeBeside 40 = .ok (.iload_n 3, 1) := by decide +kernel
theorem dX0_unlikeBeside_41 : decode cX0_unlikeBeside 41 = .ok (.iload 4, 2) := by decide +kernel
theorem dX0_unlikeBeside_43 : decode cX0_unlikeBeside 43 = .ok (.iconst 1, 1) := by decide +kernel
theorem dX0_unlikeBeside_44 : decode cX0_unlikeBeside 44 = .ok (.isub, 1) := by decide +kernel
theorem dX0_unlikeBeside_45 : decode cX0_unlikeBeside 45 = .ok (.invokevirtual 32, 3) := by decide +kernel
theorem dX0_unlikeBeside_48 : decode cX0_unlikeBeside 48 = .ok (.iload_n 2, 1) := by decide +kernel
theorem dX0_unlikeBeside_49 : decode cX0_unlikeBeside 49 = .ok (.invokestatic 36, 3) := by decide +kernel
theorem dX0_unlikeBeside_52 : decode cX0_unlikeBeside 52 = .ok (.iadd, 1) := by decide +kernel
theorem dX0_unlikeBeside_53 : decode cX0_unlikeBeside 53 = .ok (.aload_n 0, 1) := by decide +kernel
theorem dX0_unlikeBeside_54 : decode cX0_unlikeBeside 54 = .ok (.aload_n 0, 1) := by decide +kernel
theorem dX0_unlikeBeside_55 : decode cX0_unlikeBeside 55 = .ok (.iload_n 3, 1) := by decide +kernel
theorem dX0_unlikeBeside_56 : decode cX0_unlikeBeside 56 = .ok (.iload 4, 2) := by decide +kernel
theorem dX0_unlikeBeside_58 : decode cX0_unlikeBeside 58 = .ok (.iconst 1, 1) := by decide +kernel
theorem dX0_unlikeBeside_59 : decode cX0_unlikeBeside 59 = .ok (.iadd, 1) := by decide +kernel
theorem dX0_unlikeBeside_60 : decode cX0_unlikeBeside 60 = .ok (.invokevirtual 32, 3) := by decide +kernel
theorem dX0_unlikeBeside_63 : decode cX0_unlikeBeside 63 = .ok (.iload_n 2, 1) := by decide +kernel
theorem dX0_unlikeBeside_64 : decode cX0_unlikeBeside 64 = .ok (.invokestatic 36, 3) := by decide +kernel
theorem dX0_unlikeBeside_67 : decode cX0_unlikeBeside 67 = .ok (.iadd, 1) := by decide +kernel
theorem dX0_unlikeBeside_68 : decode cX0_unlikeBeside 68 = .ok (.ireturn, 1) := by decide +kernel
theorem dX0_unlike_0 : decode cX0_unlike 0 = .ok (.iload_n 1, 1) := by decide +kernel
theorem dX0_unlike_1 : decode cX0_unlike 1 = .ok (.iconst (-1), 1) := by decide +kernel
theorem dX0_unlike_2 : decode cX0_unlike 2 = .ok (.if_icmp .eq 16, 3) := by decide +kernel
theorem dX0_unlike_5 : decode cX0_unlike 5 = .ok (.aload_n 0, 1) := by decide +kernel
theorem dX0_unlike_6 : decode cX0_unlike 6 = .ok (.iload_n 1, 1) := by decide +kernel
theorem dX0_unlike_7 : decode cX0_unlike 7 = .ok (.invokevirtual 15, 3) := by decide +kernel
theorem dX0_unlike_10 : decode cX0_unlike 10 = .ok (.iload_n 2, 1) := by decide +kernel
theorem dX0_unlike_11 : decode cX0_unlike 11 = .ok (.if_icmp .eq 7, 3) := by decide +kernel
theorem dX0_unlike_14 : decode cX0_unlike 14 = .ok (.iconst 1, 1) := by decide +kernel
theorem dX0_unlike_15 : decode cX0_unlike 15 = .ok (.goto 4, 3) := by decide +kernel
theorem dX0_unlike_18 : decode cX0_unlike 18 = .ok (.iconst 0, 1) := by decide +kernel
theorem dX0_unlike_19 : decode cX0_unlike 19 = .ok (.ireturn, 1) := by decide +kernel
theorem dX0_parts_0 : decode cX0_parts 0 = .ok (.iconst 0, 1) := by decide +kernel
theorem dX0_parts_1 : decode cX0_parts 1 = .ok (.istore_n 1, 1) := by decide +kernel
theorem dX0_parts_2 : decode cX0_parts 2 = .ok (.iconst 0, 1) := by decide +kernel
theorem dX0_parts_3 : decode cX0_parts 3 = .ok (.istore_n 2, 1) := by decide +kernel
theorem dX0_parts_4 : decode cX0_parts 4 = .ok (.iload_n 2, 1) := by decide +kernel
theorem dX0_parts_5 : decode cX0_parts 5 = .ok (.bipush 20, 2) := by decide +kernel
theorem dX0_parts_7 : decode cX0_parts 7 = .ok (.if_icmp .ge 34, 3) := by decide +kernel
theorem dX0_parts_10 : decode cX0_parts 10 = .ok (.aload_n 0, 1) := by decide +kernel
theorem dX0_parts_11 : decode cX0_parts 11 = .ok (.iload_n 2, 1) := by decide +kernel
theorem dX0_parts_12 : decode cX0_parts 12 = .ok (.invokevirtual 9, 3) := by decide +kernel
theorem dX0_parts_15 : decode cX0_parts 15 = .ok (.ifCond .eq 20, 3) := by decide +kernel
theorem dX0_parts_18 : decode cX0_parts 18 = .ok (.aload_n 0, 1) := by decide +kernel
theorem dX0_parts_19 : decode cX0_parts 19 = .ok (.iload_n 2, 1) := by decide +kernel
theorem dX0_parts_20 : decode cX0_parts 20 = .ok (.invokestatic 39, 3) := by decide +kernel
theorem dX0_parts_23 : decode cX0_parts 23 = .ok (.iconst 1, 1) := by decide +kernel
theorem dX0_parts_24 : decode cX0_parts 24 = .ok (.iload_n 2, 1) := by decide +kernel
theorem dX0_parts_25 : decode cX0_parts 25 = .ok (.ishl, 1) := by decide +kernel
theorem dX0_parts_26 : decode cX0_parts 26 = .ok (.iconst 1, 1) := by decide +kernel
theorem dX0_parts_27 : decode cX0_parts 27 = .ok (.isub, 1) := by decide +kernel
theorem dX0_parts_28 : decode cX0_parts 28 = .ok (.iand, 1) := by decide +kernel
theorem dX0_parts_29 : decode cX0_parts 29 = .ok (.ifCond .ne 6, 3) := by decide +kernel
theorem dX0_parts_32 : decode cX0_parts 32 = .ok (.iinc 1 1, 3) := by decide +kernel
theorem dX0_parts_35 : decode cX0_parts 35 = .ok (.iinc 2 1, 3) := by decide +kernel
theorem dX0_parts_38 : decode cX0_parts 38 = .ok (.goto (-34), 3) := by decide +kernel
theorem dX0_parts_41 : decode cX0_parts 41 = .ok (.iload_n 1, 1) := by decide +kernel
theorem dX0_parts_42 : decode cX0_parts 42 = .ok (.ireturn, 1) := by decide +kernel
theorem dX0_greatestPart_0 : decode cX0_greatestPart 0 = .ok (.iconst 0, 1) := by decide +kernel
theorem dX0_greatestPart_1 : decode cX0_greatestPart 1 = .ok (.istore_n 1, 1) := by decide +kernel
theorem dX0_greatestPart_2 : decode cX0_greatestPart 2 = .ok (.iconst 0, 1) := by decide +kernel
theorem dX0_greatestPart_3 : decode cX0_greatestPart 3 = .ok (.istore_n 2, 1) := by decide +kernel
theorem dX0_greatestPart_4 : decode cX0_greatestPart 4 = .ok (.iload_n 2, 1) := by decide +kernel
theorem dX0_greatestPart_5 : decode cX0_greatestPart 5 = .ok (.bipush 20, 2) := by decide +kernel
theorem dX0_greatestPart_7 : decode cX0_greatestPart 7 = .ok (.if_icmp .ge 30, 3) := by decide +kernel
theorem dX0_greatestPart_10 : decode cX0_greatestPart 10 = .ok (.aload_n 0, 1) := by decide +kernel
theorem dX0_greatestPart_11 : decode cX0_greatestPart 11 = .ok (.iload_n 2, 1) := by decide +kernel
theorem dX0_greatestPart_12 : decode cX0_greatestPart 12 = .ok (.invokevirtual 9, 3) := by decide +kernel
theorem dX0_greatestPart_15 : decode cX0_greatestPart 15 = .ok (.ifCond .eq 16, 3) := by decide +kernel
theorem dX0_greatestPart_18 : decode cX0_greatestPart 18 = .ok (.iload_n 1, 1) := by decide +kernel
theorem dX0_greatestPart_19 : decode cX0_greatestPart 19 = .ok (.aload_n 0, 1) := by decide +kernel
theorem dX0_greatestPart_20 : decode cX0_greatestPart 20 = .ok (.iload_n 2, 1) := by decide +kernel
theorem dX0_greatestPart_21 : decode cX0_greatestPart 21 = .ok (.invokestatic 39, 3) := by decide +kernel
theorem dX0_greatestPart_24 : decode cX0_greatestPart 24 = .ok (.invokestatic 43, 3) := by decide +kernel
theorem dX0_greatestPart_27 : decode cX0_greatestPart 27 = .ok (.invokestatic 48, 3) := by decide +kernel
theorem dX0_greatestPart_30 : decode cX0_greatestPart 30 = .ok (.istore_n 1, 1) := by decide +kernel
theorem dX0_greatestPart_31 : decode cX0_greatestPart 31 = .ok (.iinc 2 1, 3) := by decide +kernel
theorem dX0_greatestPart_34 : decode cX0_greatestPart 34 = .ok (.goto (-30), 3) := by decide +kernel
theorem dX0_greatestPart_37 : decode cX0_greatestPart 37 = .ok (.iload_n 1, 1) := by decide +kernel
theorem dX0_greatestPart_38 : decode cX0_greatestPart 38 = .ok (.ireturn, 1) := by decide +kernel
theorem dX0_partOf_0 : decode cX0_partOf 0 = .ok (.aload_n 0, 1) := by decide +kernel
theorem dX0_partOf_1 : decode cX0_partOf 1 = .ok (.aload_n 0, 1) := by decide +kernel
theorem dX0_partOf_2 : decode cX0_partOf 2 = .ok (.iload_n 1, 1) := by decide +kernel
theorem dX0_partOf_3 : decode cX0_partOf 3 = .ok (.invokevirtual 15, 3) := by decide +kernel
theorem dX0_partOf_6 : decode cX0_partOf 6 = .ok (.invokestatic 53, 3) := by decide +kernel
theorem dX0_partOf_9 : decode cX0_partOf 9 = .ok (.istore_n 2, 1) := by decide +kernel
theorem dX0_partOf_10 : decode cX0_partOf 10 = .ok (.iconst 1, 1) := by decide +kernel
theorem dX0_partOf_11 : decode cX0_partOf 11 = .ok (.iload_n 1, 1) := by decide +kernel
theorem dX0_partOf_12 : decode cX0_partOf 12 = .ok (.ishl, 1) := by decide +kernel
theorem dX0_partOf_13 : decode cX0_partOf 13 = .ok (.istore_n 3, 1) := by decide +kernel
theorem dX0_partOf_14 : decode cX0_partOf 14 = .ok (.iconst 1, 1) := by decide +kernel
theorem dX0_partOf_15 : decode cX0_partOf 15 = .ok (.istore 4, 2) := by decide +kernel
theorem dX0_partOf_17 : decode cX0_partOf 17 = .ok (.iload 4, 2) := by decide +kernel
theorem dX0_partOf_19 : decode cX0_partOf 19 = .ok (.bipush 20, 2) := by decide +kernel
theorem dX0_partOf_21 : decode cX0_partOf 21 = .ok (.if_icmp .ge 18, 3) := by decide +kernel
theorem dX0_partOf_24 : decode cX0_partOf 24 = .ok (.iload_n 3, 1) := by decide +kernel
theorem dX0_partOf_25 : decode cX0_partOf 25 = .ok (.iload_n 3, 1) := by decide +kernel
theorem dX0_partOf_26 : decode cX0_partOf 26 = .ok (.invokestatic 56, 3) := by decide +kernel
theorem dX0_partOf_29 : decode cX0_partOf 29 = .ok (.ior, 1) := by decide +kernel
theorem dX0_partOf_30 : decode cX0_partOf 30 = .ok (.iload_n 2, 1) := by decide +kernel
theorem dX0_partOf_31 : decode cX0_partOf 31 = .ok (.iand, 1) := by decide +kernel
theorem dX0_partOf_32 : decode cX0_partOf 32 = .ok (.istore_n 3, 1) := by decide +kernel
theorem dX0_partOf_33 : decode cX0_partOf 33 = .ok (.iinc 4 1, 3) := by decide +kernel
theorem dX0_partOf_36 : decode cX0_partOf 36 = .ok (.goto (-19), 3) := by decide +kernel
theorem dX0_partOf_39 : decode cX0_partOf 39 = .ok (.iload_n 3, 1) := by decide +kernel
theorem dX0_partOf_40 : decode cX0_partOf 40 = .ok (.ireturn, 1) := by decide +kernel
theorem dX0_panesOf_0 : decode cX0_panesOf 0 = .ok (.iconst 0, 1) := by decide +kernel
theorem dX0_panesOf_1 : decode cX0_panesOf 1 = .ok (.istore_n 2, 1) := by decide +kernel
theorem dX0_panesOf_2 : decode cX0_panesOf 2 = .ok (.iconst 0, 1) := by decide +kernel
theorem dX0_panesOf_3 : decode cX0_panesOf 3 = .ok (.istore_n 3, 1) := by decide +kernel
theorem dX0_panesOf_4 : decode cX0_panesOf 4 = .ok (.iload_n 3, 1) := by decide +kernel
theorem dX0_panesOf_5 : decode cX0_panesOf 5 = .ok (.bipush 20, 2) := by decide +kernel
theorem dX0_panesOf_7 : decode cX0_panesOf 7 = .ok (.if_icmp .ge 32, 3) := by decide +kernel
theorem dX0_panesOf_10 : decode cX0_panesOf 10 = .ok (.aload_n 0, 1) := by decide +kernel
theorem dX0_panesOf_11 : decode cX0_panesOf 11 = .ok (.iload_n 3, 1) := by decide +kernel
theorem dX0_panesOf_12 : decode cX0_panesOf 12 = .ok (.invokevirtual 9, 3) := by decide +kernel
theorem dX0_panesOf_15 : decode cX0_panesOf 15 = .ok (.ifCond .eq 18, 3) := by decide +kernel
theorem dX0_panesOf_18 : decode cX0_panesOf 18 = .ok (.aload_n 0, 1) := by decide +kernel
theorem dX0_panesOf_19 : decode cX0_panesOf 19 = .ok (.iload_n 3, 1) := by decide +kernel
theorem dX0_panesOf_20 : decode cX0_panesOf 20 = .ok (.invokevirtual 15, 3) := by decide +kernel
theorem dX0_panesOf_23 : decode cX0_panesOf 23 = .ok (.iload_n 1, 1) := by decide +kernel
theorem dX0_panesOf_24 : decode cX0_panesOf 24 = .ok (.if_icmp .ne 9, 3) := by decide +kernel
theorem dX0_panesOf_27 : decode cX0_panesOf 27 = .ok (.iload_n 2, 1) := by decide +kernel
theorem dX0_panesOf_28 : decode cX0_panesOf 28 = .ok (.iconst 1, 1) := by decide +kernel
theorem dX0_panesOf_29 : decode cX0_panesOf 29 = .ok (.iload_n 3, 1) := by decide +kernel
theorem dX0_panesOf_30 : decode cX0_panesOf 30 = .ok (.ishl, 1) := by decide +kernel
theorem dX0_panesOf_31 : decode cX0_panesOf 31 = .ok (.ior, 1) := by decide +kernel
theorem dX0_panesOf_32 : decode cX0_panesOf 32 = .ok (.istore_n 2, 1) := by decide +kernel
theorem dX0_panesOf_33 : decode cX0_panesOf 33 = .ok (.iinc 3 1, 3) := by decide +kernel
theorem dX0_panesOf_36 : decode cX0_panesOf 36 = .ok (.goto (-32), 3) := by decide +kernel
theorem dX0_panesOf_39 : decode cX0_panesOf 39 = .ok (.iload_n 2, 1) := by decide +kernel
theorem dX0_panesOf_40 : decode cX0_panesOf 40 = .ok (.ireturn, 1) := by decide +kernel
theorem dX0_beside_0 : decode cX0_beside 0 = .ok (.iload_n 0, 1) := by decide +kernel
theorem dX0_beside_1 : decode cX0_beside 1 = .ok (.iconst 4, 1) := by decide +kernel
theorem dX0_beside_2 : decode cX0_beside 2 = .ok (.ishl, 1) := by decide +kernel
theorem dX0_beside_3 : decode cX0_beside 3 = .ok (.iload_n 0, 1) := by decide +kernel
theorem dX0_beside_4 : decode cX0_beside 4 = .ok (.iconst 4, 1) := by decide +kernel
theorem dX0_beside_5 : decode cX0_beside 5 = .ok (.ishr, 1) := by decide +kernel
theorem dX0_beside_6 : decode cX0_beside 6 = .ok (.ior, 1) := by decide +kernel
theorem dX0_beside_7 : decode cX0_beside 7 = .ok (.istore_n 1, 1) := by decide +kernel
theorem dX0_beside_8 : decode cX0_beside 8 = .ok (.iload_n 0, 1) := by decide +kernel
theorem dX0_beside_9 : decode cX0_beside 9 = .ok (.ldc 59, 2) := by decide +kernel
theorem dX0_beside_11 : decode cX0_beside 11 = .ok (.iand, 1) := by decide +kernel
theorem dX0_beside_12 : decode cX0_beside 12 = .ok (.iconst 1, 1) := by decide +kernel
theorem dX0_beside_13 : decode cX0_beside 13 = .ok (.ishl, 1) := by decide +kernel
theorem dX0_beside_14 : decode cX0_beside 14 = .ok (.iload_n 0, 1) := by decide +kernel
theorem dX0_beside_15 : decode cX0_beside 15 = .ok (.ldc 60, 2) := by decide +kernel
theorem dX0_beside_17 : decode cX0_beside 17 = .ok (.iand, 1) := by decide +kernel
theorem dX0_beside_18 : decode cX0_beside 18 = .ok (.iconst 1, 1) := by decide +kernel
theorem dX0_beside_19 : decode cX0_beside 19 = .ok (.ishr, 1) := by decide +kernel
theorem dX0_beside_20 : decode cX0_beside 20 = .ok (.ior, 1) := by decide +kernel
theorem dX0_beside_21 : decode cX0_beside 21 = .ok (.istore_n 2, 1) := by decide +kernel
theorem dX0_beside_22 : decode cX0_beside 22 = .ok (.iload_n 1, 1) := by decide +kernel
theorem dX0_beside_23 : decode cX0_beside 23 = .ok (.iload_n 2, 1) := by decide +kernel
theorem dX0_beside_24 : decode cX0_beside 24 = .ok (.ior, 1) := by decide +kernel
theorem dX0_beside_25 : decode cX0_beside 25 = .ok (.ireturn, 1) := by decide +kernel
theorem dX1_init_0 : decode cX1_init 0 = .ok (.aload_n 0, 1) := by decide +kernel
theorem dX1_init_1 : decode cX1_init 1 = .ok (.invokespecial 1, 3) := by decide +kernel
theorem dX1_init_4 : decode cX1_init 4 = .ok (.return_, 1) := by decide +kernel
theorem dX1_seek_0 : decode cX1_seek 0 = .ok (.aload_n 1, 1) := by decide +kernel
theorem dX1_seek_1 : decode cX1_seek 1 = .ok (.iload_n 2, 1) := by decide +kernel
theorem dX1_seek_2 : decode cX1_seek 2 = .ok (.iload_n 3, 1) := by decide +kernel
theorem dX1_seek_3 : decode cX1_seek 3 = .ok (.invokevirtual 7, 3) := by decide +kernel
theorem dX1_seek_6 : decode cX1_seek 6 = .ok (.istore 5, 2) := by decide +kernel
theorem dX1_seek_8 : decode cX1_seek 8 = .ok (.aload_n 1, 1) := by decide +kernel
theorem dX1_seek_9 : decode cX1_seek 9 = .ok (.iload_n 2, 1) := by decide +kernel
theorem dX1_seek_10 : decode cX1_seek 10 = .ok (.iload_n 3, 1) := by decide +kernel
theorem dX1_seek_11 : decode cX1_seek 11 = .ok (.invokevirtual 13, 3) := by decide +kernel
theorem dX1_seek_14 : decode cX1_seek 14 = .ok (.istore 6, 2) := by decide +kernel
theorem dX1_seek_16 : decode cX1_seek 16 = .ok (.aload_n 1, 1) := by decide +kernel
theorem dX1_seek_17 : decode cX1_seek 17 = .ok (.iload 5, 2) := by decide +kernel
theorem dX1_seek_19 : decode cX1_seek 19 = .ok (.invokevirtual 16, 3) := by decide +kernel
theorem dX1_seek_22 : decode cX1_seek 22 = .ok (.istore 7, 2) := by decide +kernel
theorem dX1_seek_24 : decode cX1_seek 24 = .ok (.aload_n 1, 1) := by decide +kernel
theorem dX1_seek_25 : decode cX1_seek 25 = .ok (.invokevirtual 20, 3) := by decide +kernel
theorem dX1_seek_28 : decode cX1_seek 28 = .ok (.istore 8, 2) := by decide +kernel
theorem dX1_seek_30 : decode cX1_seek 30 = .ok (.aload_n 0, 1) := by decide +kernel
theorem dX1_seek_31 : decode cX1_seek 31 = .ok (.iconst 0, 1) := by decide +kernel
theorem dX1_seek_32 : decode cX1_seek 32 = .ok (.putfield 24, 3) := by decide +kernel
theorem dX1_seek_35 : decode cX1_seek 35 = .ok (.iconst 0, 1) := by decide +kernel
theorem dX1_seek_36 : decode cX1_seek 36 = .ok (.istore 9, 2) := by decide +kernel
theorem dX1_seek_38 : decode cX1_seek 38 = .ok (.iload 9, 2) := by decide +kernel
theorem dX1_seek_40 : decode cX1_seek 40 = .ok (.iload 8, 2) := by decide +kernel
theorem dX1_seek_42 : decode cX1_seek 42 = .ok (.if_icmp .gt 61, 3) := by decide +kernel
theorem dX1_seek_45 : decode cX1_seek 45 = .ok (.iload 9, 2) := by decide +kernel
theorem dX1_seek_47 : decode cX1_seek 47 = .ok (.iload 8, 2) := by decide +kernel
theorem dX1_seek_49 : decode cX1_seek 49 = .ok (.iconst (-1), 1) := by decide +kernel
theorem dX1_seek_50 : decode cX1_seek 50 = .ok (.ixor, 1) := by decide +kernel
theorem dX1_seek_51 : decode cX1_seek 51 = .ok (.iand, 1) := by decide +kernel
theorem dX1_seek_52 : decode cX1_seek 52 = .ok (.ifCond .ne 45, 3) := by decide +kernel
theorem dX1_seek_55 : decode cX1_seek 55 = .ok (.iload 9, 2) := by decide +kernel
theorem dX1_seek_57 : decode cX1_seek 57 = .ok (.invokestatic 30, 3) := by decide +kernel
theorem dX1_seek_60 : decode cX1_seek 60 = .ok (.iload 7, 2) := by decide +kernel
theorem dX1_seek_62 : decode cX1_seek 62 = .ok (.if_icmp .gt 35, 3) := by decide +kernel
theorem dX1_seek_65 : decode cX1_seek 65 = .ok (.aload_n 1, 1) := by decide +kernel
theorem dX1_seek_66 : decode cX1_seek 66 = .ok (.iload 5, 2) := by decide +kernel
theorem dX1_seek_68 : decode cX1_seek 68 = .ok (.invokevirtual 35, 3) := by decide +kernel
theorem dX1_seek_71 : decode cX1_seek 71 = .ok (.aload_n 1, 1) := by decide +kernel
theorem dX1_seek_72 : decode cX1_seek 72 = .ok (.getfield 38, 3) := by decide +kernel
theorem dX1_seek_75 : decode cX1_seek 75 = .ok (.getfield 42, 3) := by decide +kernel
theorem dX1_seek_78 : decode cX1_seek 78 = .ok (.iload 9, 2) := by decide +kernel
theorem dX1_seek_80 : decode cX1_seek 80 = .ok (.iaload, 1) := by decide +kernel
theorem dX1_seek_81 : decode cX1_seek 81 = .ok (.iand, 1) := by decide +kernel
theorem dX1_seek_82 : decode cX1_seek 82 = .ok (.istore 10, 2) := by decide +kernel
theorem dX1_seek_84 : decode cX1_seek 84 = .ok (.aload_n 0, 1) := by decide +kernel
theorem dX1_seek_85 : decode cX1_seek 85 = .ok (.aload_n 1, 1) := by decide +kernel
theorem dX1_seek_86 : decode cX1_seek 86 = .ok (.iload 6, 2) := by decide +kernel
theorem dX1_seek_88 : decode cX1_seek 88 = .ok (.iload 9, 2) := by decide +kernel
theorem dX1_seek_90 : decode cX1_seek 90 = .ok (.iload 10, 2) := by decide +kernel
theorem dX1_seek_92 : decode cX1_seek 92 = .ok (.iload 4, 2) := by decide +kernel
theorem dX1_seek_94 : decode cX1_seek 94 = .ok (.invokevirtual 48, 3) := by decide +kernel
theorem dX1_seek_97 : decode cX1_seek 97 = .ok (.iinc 9 1, 3) := by decide +kernel
theorem dX1_seek_100 : decode cX1_seek 100 = .ok (.goto (-62), 3) := by decide +kernel
theorem dX1_seek_103 : decode cX1_seek 103 = .ok (.return_, 1) := by decide +kernel
theorem dX1_seekLatter_0 : decode cX1_seekLatter 0 = .ok (.aload_n 1, 1) := by decide +kernel
theorem dX1_seekLatter_1 : decode cX1_seekLatter 1 = .ok (.invokevirtual 20, 3) := by decide +kernel
theorem dX1_seekLatter_4 : decode cX1_seekLatter 4 = .ok (.iload_n 3, 1) := by decide +kernel
theorem dX1_seekLatter_5 : decode cX1_seekLatter 5 = .ok (.iconst (-1), 1) := by decide +kernel
theorem dX1_seekLatter_6 : decode cX1_seekLatter 6 = .ok (.ixor, 1) := by decide +kernel
theorem dX1_seekLatter_7 : decode cX1_seekLatter 7 = .ok (.iand, 1) := by decide +kernel
theorem dX1_seekLatter_8 : decode cX1_seekLatter 8 = .ok (.istore 6, 2) := by decide +kernel
theorem dX1_seekLatter_10 : decode cX1_seekLatter 10 = .ok (.aload_n 1, 1) := by decide +kernel
theorem dX1_seekLatter_11 : decode cX1_seekLatter 11 = .ok (.iload_n 2, 1) := by decide +kernel
theorem dX1_seekLatter_12 : decode cX1_seekLatter 12 = .ok (.invokevirtual 16, 3) := by decide +kernel
theorem dX1_seekLatter_15 : decode cX1_seekLatter 15 = .ok (.istore 7, 2) := by decide +kernel
theorem dX1_seekLatter_17 : decode cX1_seekLatter 17 = .ok (.aload_n 1, 1) := by decide +kernel
theorem dX1_seekLatter_18 : decode cX1_seekLatter 18 = .ok (.iload_n 2, 1) := by decide +kernel
theorem dX1_seekLatter_19 : decode cX1_seekLatter 19 = .ok (.invokevirtual 35, 3) := by decide +kernel
theorem dX1_seekLatter_22 : decode cX1_seekLatter 22 = .ok (.istore 8, 2) := by decide +kernel
theorem dX1_seekLatter_24 : decode cX1_seekLatter 24 = .ok (.iconst 0, 1) := by decide +kernel
theorem dX1_seekLatter_25 : decode cX1_seekLatter 25 = .ok (.istore 9, 2) := by decide +kernel
theorem dX1_seekLatter_27 : decode cX1_seekLatter 27 = .ok (.iconst 1, 1) := by decide +kernel
theorem dX1_seekLatter_28 : decode cX1_seekLatter 28 = .ok (.iload 6, 2) := by decide +kernel
theorem dX1_seekLatter_30 : decode cX1_seekLatter 30 = .ok (.invokestatic 30, 3) := by decide +kernel
theorem dX1_seekLatter_33 : decode cX1_seekLatter 33 = .ok (.ishl, 1) := by decide +kernel
theorem dX1_seekLatter_34 : decode cX1_seekLatter 34 = .ok (.istore 10, 2) := by decide +kernel
theorem dX1_seekLatter_36 : decode cX1_seekLatter 36 = .ok (.iload 10, 2) := by decide +kernel
theorem dX1_seekLatter_38 : decode cX1_seekLatter 38 = .ok (.ifCond .le 61, 3) := by decide +kernel
theorem dX1_seekLatter_41 : decode cX1_seekLatter 41 = .ok (.iload 4, 2) := by decide +kernel
theorem dX1_seekLatter_43 : decode cX1_seekLatter 43 = .ok (.iload 8, 2) := by decide +kernel
theorem dX1_seekLatter_45 : decode cX1_seekLatter 45 = .ok (.aload_n 1, 1) := by decide +kernel
theorem dX1_seekLatter_46 : decode cX1_seekLatter 46 = .ok (.getfield 38, 3) := by decide +kernel
theorem dX1_seekLatter_49 : decode cX1_seekLatter 49 = .ok (.getfield 42, 3) := by decide +kernel
theorem dX1_seekLatter_52 : decode cX1_seekLatter 52 = .ok (.iload 9, 2) := by decide +kernel
theorem dX1_seekLatter_54 : decode cX1_seekLatter 54 = .ok (.iaload, 1) := by decide +kernel
theorem dX1_seekLatter_55 : decode cX1_seekLatter 55 = .ok (.iand, 1) := by decide +kernel
theorem dX1_seekLatter_56 : decode cX1_seekLatter 56 = .ok (.ior, 1) := by decide +kernel
theorem dX1_seekLatter_57 : decode cX1_seekLatter 57 = .ok (.istore 11, 2) := by decide +kernel
theorem dX1_seekLatter_59 : decode cX1_seekLatter 59 = .ok (.iload 11, 2) := by decide +kernel
theorem dX1_seekLatter_61 : decode cX1_seekLatter 61 = .ok (.iload 5, 2) := by decide +kernel
theorem dX1_seekLatter_63 : decode cX1_seekLatter 63 = .ok (.if_icmp .ne 20, 3) := by decide +kernel
theorem dX1_seekLatter_66 : decode cX1_seekLatter 66 = .ok (.iload 9, 2) := by decide +kernel
theorem dX1_seekLatter_68 : decode cX1_seekLatter 68 = .ok (.invokestatic 30, 3) := by decide +kernel
theorem dX1_seekLatter_71 : decode cX1_seekLatter 71 = .ok (.iload 7, 2) := by decide +kernel
theorem dX1_seekLatter_73 : decode cX1_seekLatter 73 = .ok (.if_icmp .gt 10, 3) := by decide +kernel
theorem dX1_seekLatter_76 : decode cX1_seekLatter 76 = .ok (.aload_n 0, 1) := by decide +kernel
theorem dX1_seekLatter_77 : decode cX1_seekLatter 77 = .ok (.iload_n 3, 1) := by decide +kernel
theorem dX1_seekLatter_78 : decode cX1_seekLatter 78 = .ok (.iload 9, 2) := by decide +kernel
theorem dX1_seekLatter_80 : decode cX1_seekLatter 80 = .ok (.invokevirtual 52, 3) := by decide +kernel
theorem dX1_seekLatter_83 : decode cX1_seekLatter 83 = .ok (.iload 9, 2) := by decide +kernel
theorem dX1_seekLatter_85 : decode cX1_seekLatter 85 = .ok (.iload 6, 2) := by decide +kernel
theorem dX1_seekLatter_87 : decode cX1_seekLatter 87 = .ok (.isub, 1) := by decide +kernel
theorem dX1_seekLatter_88 : decode cX1_seekLatter 88 = .ok (.iload 6, 2) := by decide +kernel
theorem dX1_seekLatter_90 : decode cX1_seekLatter 90 = .ok (.iand, 1) := by decide +kernel
theorem dX1_seekLatter_91 : decode cX1_seekLatter 91 = .ok (.istore 9, 2) := by decide +kernel
theorem dX1_seekLatter_93 : decode cX1_seekLatter 93 = .ok (.iinc 10 (-1), 3) := by decide +kernel
theorem dX1_seekLatter_96 : decode cX1_seekLatter 96 = .ok (.goto (-60), 3) := by decide +kernel
theorem dX1_seekLatter_99 : decode cX1_seekLatter 99 = .ok (.return_, 1) := by decide +kernel
theorem dX1_offer_0 : decode cX1_offer 0 = .ok (.iload_n 1, 1) := by decide +kernel
theorem dX1_offer_1 : decode cX1_offer 1 = .ok (.invokestatic 30, 3) := by decide +kernel
theorem dX1_offer_4 : decode cX1_offer 4 = .ok (.iload_n 2, 1) := by decide +kernel
theorem dX1_offer_5 : decode cX1_offer 5 = .ok (.invokestatic 30, 3) := by decide +kernel
theorem dX1_offer_8 : decode cX1_offer 8 = .ok (.iadd, 1) := by decide +kernel
theorem dX1_offer_9 : decode cX1_offer 9 = .ok (.istore_n 3, 1) := by decide +kernel
theorem dX1_offer_10 : decode cX1_offer 10 = .ok (.aload_n 0, 1) := by decide +kernel
theorem dX1_offer_11 : decode cX1_offer 11 = .ok (.getfield 24, 3) := by decide +kernel
theorem dX1_offer_14 : decode cX1_offer 14 = .ok (.ifCond .eq 11, 3) := by decide +kernel
theorem dX1_offer_17 : decode cX1_offer 17 = .ok (.iload_n 3, 1) := by decide +kernel
theorem dX1_offer_18 : decode cX1_offer 18 = .ok (.aload_n 0, 1) := by decide +kernel
theorem dX1_offer_19 : decode cX1_offer 19 = .ok (.getfield 56, 3) := by decide +kernel
theorem dX1_offer_22 : decode cX1_offer 22 = .ok (.if_icmp .ge 23, 3) := by decide +kernel
theorem dX1_offer_25 : decode cX1_offer 25 = .ok (.aload_n 0, 1) := by decide +kernel
theorem dX1_offer_26 : decode cX1_offer 26 = .ok (.iconst 1, 1) := by decide +kernel
theorem dX1_offer_27 : decode cX1_offer 27 = .ok (.putfield 24, 3) := by decide +kernel
theorem dX1_offer_30 : decode cX1_offer 30 = .ok (.aload_n 0, 1) := by decide +kernel
theorem dX1_offer_31 : decode cX1_offer 31 = .ok (.iload_n 3, 1) := by decide +kernel
theorem dX1_offer_32 : decode cX1_offer 32 = .ok (.putfield 56, 3) := by decide +kernel
theorem dX1_offer_35 : decode cX1_offer 35 = .ok (.aload_n 0, 1) := by decide +kernel
theorem dX1_offer_36 : decode cX1_offer 36 = .ok (.iload_n 1, 1) := by decide +kernel
theorem dX1_offer_37 : decode cX1_offer 37 = .ok (.putfield 60, 3) := by decide +kernel
theorem dX1_offer_40 : decode cX1_offer 40 = .ok (.aload_n 0, 1) := by decide +kernel
theorem dX1_offer_41 : decode cX1_offer 41 = .ok (.iload_n 2, 1) := by decide +kernel
theorem dX1_offer_42 : decode cX1_offer 42 = .ok (.putfield 63, 3) := by decide +kernel
theorem dX1_offer_45 : decode cX1_offer 45 = .ok (.return_, 1) := by decide +kernel
theorem dX2_init_0 : decode cX2_init 0 = .ok (.aload_n 0, 1) := by decide +kernel
theorem dX2_init_1 : decode cX2_init 1 = .ok (.invokespecial 3, 3) := by decide +kernel
theorem dX2_init_4 : decode cX2_init 4 = .ok (.aload_n 0, 1) := by decide +kernel
theorem dX2_init_5 : decode cX2_init 5 = .ok (.bipush 20, 2) := by decide +kernel
theorem dX2_init_7 : decode cX2_init 7 = .ok (.newarray .int, 2) := by decide +kernel
theorem dX2_init_9 : decode cX2_init 9 = .ok (.putfield 9, 3) := by decide +kernel
theorem dX2_init_12 : decode cX2_init 12 = .ok (.return_, 1) := by decide +kernel
theorem dX2_become_0 : decode cX2_become 0 = .ok (.aload_n 1, 1) := by decide +kernel
theorem dX2_become_1 : decode cX2_become 1 = .ok (.getfield 9, 3) := by decide +kernel
theorem dX2_become_4 : decode cX2_become 4 = .ok (.iconst 0, 1) := by decide +kernel
theorem dX2_become_5 : decode cX2_become 5 = .ok (.aload_n 0, 1) := by decide +kernel
theorem dX2_become_6 : decode cX2_become 6 = .ok (.getfield 9, 3) := by decide +kernel
theorem dX2_become_9 : decode cX2_become 9 = .ok (.iconst 0, 1) := by decide +kernel
theorem dX2_become_10 : decode cX2_become 10 = .ok (.bipush 20, 2) := by decide +kernel
theorem dX2_become_12 : decode cX2_become 12 = .ok (.invokestatic 15, 3) := by decide +kernel
theorem dX2_become_15 : decode cX2_become 15 = .ok (.aload_n 0, 1) := by decide +kernel
theorem dX2_become_16 : decode cX2_become 16 = .ok (.aload_n 1, 1) := by decide +kernel
theorem dX2_become_17 : decode cX2_become 17 = .ok (.getfield 21, 3) := by decide +kernel
theorem dX2_become_20 : decode cX2_become 20 = .ok (.putfield 21, 3) := by decide +kernel
theorem dX2_become_23 : decode cX2_become 23 = .ok (.aload_n 0, 1) := by decide +kernel
theorem dX2_become_24 : decode cX2_become 24 = .ok (.aload_n 1, 1) := by decide +kernel
theorem dX2_become_25 : decode cX2_become 25 = .ok (.getfield 25, 3) := by decide +kernel
theorem dX2_become_28 : decode cX2_become 28 = .ok (.putfield 25, 3) := by decide +kernel
theorem dX2_become_31 : decode cX2_become 31 = .ok (.aload_n 0, 1) := by decide +kernel
theorem dX2_become_32 : decode cX2_become 32 = .ok (.aload_n 1, 1) := by decide +kernel
theorem dX2_become_33 : decode cX2_become 33 = .ok (.getfield 28, 3) := by decide +kernel
theorem dX2_become_36 : decode cX2_become 36 = .ok (.putfield 28, 3) := by decide +kernel
theorem dX2_become_39 : decode cX2_become 39 = .ok (.return_, 1) := by decide +kernel
theorem dX3_init_0 : decode cX3_init 0 = .ok (.aload_n 0, 1) := by decide +kernel
theorem dX3_init_1 : decode cX3_init 1 = .ok (.invokespecial 3, 3) := by decide +kernel
theorem dX3_init_4 : decode cX3_init 4 = .ok (.aload_n 0, 1) := by decide +kernel
theorem dX3_init_5 : decode cX3_init 5 = .ok (.bipush 20, 2) := by decide +kernel
theorem dX3_init_7 : decode cX3_init 7 = .ok (.newarray .int, 2) := by decide +kernel
theorem dX3_init_9 : decode cX3_init 9 = .ok (.putfield 9, 3) := by decide +kernel
theorem dX3_init_12 : decode cX3_init 12 = .ok (.aload_n 0, 1) := by decide +kernel
theorem dX3_init_13 : decode cX3_init 13 = .ok (.sipush 256, 3) := by decide +kernel
theorem dX3_init_16 : decode cX3_init 16 = .ok (.newarray .int, 2) := by decide +kernel
theorem dX3_init_18 : decode cX3_init 18 = .ok (.putfield 15, 3) := by decide +kernel
theorem dX3_init_21 : decode cX3_init 21 = .ok (.aload_n 0, 1) := by decide +kernel
theorem dX3_init_22 : decode cX3_init 22 = .ok (.invokevirtual 18, 3) := by decide +kernel
theorem dX3_init_25 : decode cX3_init 25 = .ok (.return_, 1) := by decide +kernel
theorem dX3_restart_0 : decode cX3_restart 0 = .ok (.aload_n 0, 1) := by decide +kernel
theorem dX3_restart_1 : decode cX3_restart 1 = .ok (.iconst 5, 1) := by decide +kernel
theorem dX3_restart_2 : decode cX3_restart 2 = .ok (.putfield 21, 3) := by decide +kernel
theorem dX3_restart_5 : decode cX3_restart 5 = .ok (.aload_n 0, 1) := by decide +kernel
theorem dX3_restart_6 : decode cX3_restart 6 = .ok (.iconst 4, 1) := by decide +kernel
theorem dX3_restart_7 : decode cX3_restart 7 = .ok (.putfield 25, 3) := by decide +kernel
theorem dX3_restart_10 : decode cX3_restart 10 = .ok (.aload_n 0, 1) := by decide +kernel
theorem dX3_restart_11 : decode cX3_restart 11 = .ok (.getfield 9, 3) := by decide +kernel
theorem dX3_restart_14 : decode cX3_restart 14 = .ok (.bipush 7, 2) := by decide +kernel
theorem dX3_restart_16 : decode cX3_restart 16 = .ok (.invokestatic 28, 3) := by decide +kernel
theorem dX3_restart_19 : decode cX3_restart 19 = .ok (.aload_n 0, 1) := by decide +kernel
theorem dX3_restart_20 : decode cX3_restart 20 = .ok (.getfield 15, 3) := by decide +kernel
theorem dX3_restart_23 : decode cX3_restart 23 = .ok (.iconst 0, 1) := by decide +kernel
theorem dX3_restart_24 : decode cX3_restart 24 = .ok (.bipush 7, 2) := by decide +kernel
theorem dX3_restart_26 : decode cX3_restart 26 = .ok (.iastore, 1) := by decide +kernel
theorem dX3_restart_27 : decode cX3_restart 27 = .ok (.aload_n 0, 1) := by decide +kernel
theorem dX3_restart_28 : decode cX3_restart 28 = .ok (.iconst 0, 1) := by decide +kernel
theorem dX3_restart_29 : decode cX3_restart 29 = .ok (.putfield 34, 3) := by decide +kernel
theorem dX3_restart_32 : decode cX3_restart 32 = .ok (.aload_n 0, 1) := by decide +kernel
theorem dX3_restart_33 : decode cX3_restart 33 = .ok (.bipush 12, 2) := by decide +kernel
theorem dX3_restart_35 : decode cX3_restart 35 = .ok (.putfield 37, 3) := by decide +kernel
theorem dX3_restart_38 : decode cX3_restart 38 = .ok (.aload_n 0, 1) := by decide +kernel
theorem dX3_restart_39 : decode cX3_restart 39 = .ok (.iconst 0, 1) := by decide +kernel
theorem dX3_restart_40 : decode cX3_restart 40 = .ok (.putfield 40, 3) := by decide +kernel
theorem dX3_restart_43 : decode cX3_restart 43 = .ok (.return_, 1) := by decide +kernel
theorem dX3_addSheet_0 : decode cX3_addSheet 0 = .ok (.iconst 1, 1) := by decide +kernel
theorem dX3_addSheet_1 : decode cX3_addSheet 1 = .ok (.aload_n 0, 1) := by decide +kernel
theorem dX3_addSheet_2 : decode cX3_addSheet 2 = .ok (.getfield 34, 3) := by decide +kernel
theorem dX3_addSheet_5 : decode cX3_addSheet 5 = .ok (.ishl, 1) := by decide +kernel
theorem dX3_addSheet_6 : decode cX3_addSheet 6 = .ok (.istore_n 2, 1) := by decide +kernel
theorem dX3_addSheet_7 : decode cX3_addSheet 7 = .ok (.iconst 0, 1) := by decide +kernel
theorem dX3_addSheet_8 : decode cX3_addSheet 8 = .ok (.istore_n 3, 1) := by decide +kernel
theorem dX3_addSheet_9 : decode cX3_addSheet 9 = .ok (.iload_n 3, 1) := by decide +kernel
theorem dX3_addSheet_10 : decode cX3_addSheet 10 = .ok (.iload_n 2, 1) := by decide +kernel
theorem dX3_addSheet_11 : decode cX3_addSheet 11 = .ok (.if_icmp .ge 25, 3) := by decide +kernel
theorem dX3_addSheet_14 : decode cX3_addSheet 14 = .ok (.aload_n 0, 1) := by decide +kernel
theorem dX3_addSheet_15 : decode cX3_addSheet 15 = .ok (.getfield 15, 3) := by decide +kernel
theorem dX3_addSheet_18 : decode cX3_addSheet 18 = .ok (.iload_n 2, 1) := by decide +kernel
theorem dX3_addSheet_19 : decode cX3_addSheet 19 = .ok (.iload_n 3, 1) := by decide +kernel
theorem dX3_addSheet_20 : decode cX3_addSheet 20 = .ok (.iadd, 1) := by decide +kernel
theorem dX3_addSheet_21 : decode cX3_addSheet 21 = .ok (.aload_n 0, 1) := by decide +kernel
theorem dX3_addSheet_22 : decode cX3_addSheet 22 = .ok (.getfield 15, 3) := by decide +kernel
theorem dX3_addSheet_25 : decode cX3_addSheet 25 = .ok (.iload_n 3, 1) := by decide +kernel
theorem dX3_addSheet_26 : decode cX3_addSheet 26 = .ok (.iaload, 1) := by decide +kernel
theorem dX3_addSheet_27 : decode cX3_addSheet 27 = .ok (.iload_n 1, 1) := by decide +kernel
theorem dX3_addSheet_28 : decode cX3_addSheet 28 = .ok (.iand, 1) := by decide +kernel
theorem dX3_addSheet_29 : decode cX3_addSheet 29 = .ok (.iastore, 1) := by decide +kernel
theorem dX3_addSheet_30 : decode cX3_addSheet 30 = .ok (.iinc 3 1, 3) := by decide +kernel
theorem dX3_addSheet_33 : decode cX3_addSheet 33 = .ok (.goto (-24), 3) := by decide +kernel
theorem dX3_addSheet_36 : decode cX3_addSheet 36 = .ok (.aload_n 0, 1) := by decide +kernel
theorem dX3_addSheet_37 : decode cX3_addSheet 37 = .ok (.dup, 1) := by decide +kernel
theorem dX3_addSheet_38 : decode cX3_addSheet 38 = .ok (.getfield 34, 3) := by decide +kernel
theorem dX3_addSheet_41 : decode cX3_addSheet 41 = .ok (.iconst 1, 1) := by decide +kernel
theorem dX3_addSheet_42 : decode cX3_addSheet 42 = .ok (.iadd, 1) := by decide +kernel
theorem dX3_addSheet_43 : decode cX3_addSheet 43 = .ok (.putfield 34, 3) := by decide +kernel
theorem dX3_addSheet_46 : decode cX3_addSheet 46 = .ok (.return_, 1) := by decide +kernel
theorem dX4_init_0 : decode cX4_init 0 = .ok (.aload_n 0, 1) := by decide +kernel
theorem dX4_init_1 : decode cX4_init 1 = .ok (.invokespecial 3, 3) := by decide +kernel
theorem dX4_init_4 : decode cX4_init 4 = .ok (.aload_n 0, 1) := by decide +kernel
theorem dX4_init_5 : decode cX4_init 5 = .ok (.sipush 170, 3) := by decide +kernel
theorem dX4_init_8 : decode cX4_init 8 = .ok (.newarray .int, 2) := by decide +kernel
theorem dX4_init_10 : decode cX4_init 10 = .ok (.putfield 11, 3) := by decide +kernel
theorem dX4_init_13 : decode cX4_init 13 = .ok (.return_, 1) := by decide +kernel
theorem dX4_add_0 : decode cX4_add 0 = .ok (.aload_n 0, 1) := by decide +kernel
theorem dX4_add_1 : decode cX4_add 1 = .ok (.getfield 15, 3) := by decide +kernel
theorem dX4_add_4 : decode cX4_add 4 = .ok (.sipush 170, 3) := by decide +kernel
theorem dX4_add_7 : decode cX4_add 7 = .ok (.if_icmp .lt 5, 3) := by decide +kernel
theorem dX4_add_10 : decode cX4_add 10 = .ok (.iconst 0, 1) := by decide +kernel
theorem dX4_add_11 : decode cX4_add 11 = .ok (.ireturn, 1) := by decide +kernel
theorem dX4_add_12 : decode cX4_add 12 = .ok (.aload_n 0, 1) := by decide +kernel
theorem dX4_add_13 : decode cX4_add 13 = .ok (.getfield 11, 3) := by decide +kernel
theorem dX4_add_16 : decode cX4_add 16 = .ok (.aload_n 0, 1) := by decide +kernel
theorem dX4_add_17 : decode cX4_add 17 = .ok (.getfield 15, 3) := by decide +kernel
theorem dX4_add_20 : decode cX4_add 20 = .ok (.iload_n 1, 1) := by decide +kernel
theorem dX4_add_21 : decode cX4_add 21 = .ok (.iastore, 1) := by decide +kernel
theorem dX4_add_22 : decode cX4_add 22 = .ok (.aload_n 0, 1) := by decide +kernel
theorem dX4_add_23 : decode cX4_add 23 = .ok (.dup, 1) := by decide +kernel
theorem dX4_add_24 : decode cX4_add 24 = .ok (.getfield 15, 3) := by decide +kernel
theorem dX4_add_27 : decode cX4_add 27 = .ok (.iconst 1, 1) := by decide +kernel
theorem dX4_add_28 : decode cX4_add 28 = .ok (.iadd, 1) := by decide +kernel
theorem dX4_add_29 : decode cX4_add 29 = .ok (.putfield 15, 3) := by decide +kernel
theorem dX4_add_32 : decode cX4_add 32 = .ok (.iconst 1, 1) := by decide +kernel
theorem dX4_add_33 : decode cX4_add 33 = .ok (.ireturn, 1) := by decide +kernel
theorem dX4_readInto_0 : decode cX4_readInto 0 = .ok (.aload_n 1, 1) := by decide +kernel
theorem dX4_readInto_1 : decode cX4_readInto 1 = .ok (.invokevirtual 19, 3) := by decide +kernel
theorem dX4_readInto_4 : decode cX4_readInto 4 = .ok (.aload_n 0, 1) := by decide +kernel
theorem dX4_readInto_5 : decode cX4_readInto 5 = .ok (.iconst 0, 1) := by decide +kernel
theorem dX4_readInto_6 : decode cX4_readInto 6 = .ok (.putfield 24, 3) := by decide +kernel
theorem dX4_readInto_9 : decode cX4_readInto 9 = .ok (.aload_n 0, 1) := by decide +kernel
theorem dX4_readInto_10 : decode cX4_readInto 10 = .ok (.iconst 0, 1) := by decide +kernel
theorem dX4_readInto_11 : decode cX4_readInto 11 = .ok (.putfield 28, 3) := by decide +kernel
theorem dX4_readInto_14 : decode cX4_readInto 14 = .ok (.aload_n 0, 1) := by decide +kernel
theorem dX4_readInto_15 : decode cX4_readInto 15 = .ok (.iconst 0, 1) := by decide +kernel
theorem dX4_readInto_16 : decode cX4_readInto 16 = .ok (.putfield 31, 3) := by decide +kernel
theorem dX4_readInto_19 : decode cX4_readInto 19 = .ok (.aload_n 0, 1) := by decide +kernel
theorem dX4_readInto_20 : decode cX4_readInto 20 = .ok (.invokevirtual 34, 3) := by decide +kernel
theorem dX4_readInto_23 : decode cX4_readInto 23 = .ok (.iconst 0, 1) := by decide +kernel
theorem dX4_readInto_24 : decode cX4_readInto 24 = .ok (.istore_n 2, 1) := by decide +kernel
theorem dX4_readInto_25 : decode cX4_readInto 25 = .ok (.iload_n 2, 1) := by decide +kernel
theorem dX4_readInto_26 : decode cX4_readInto 26 = .ok (.aload_n 0, 1) := by decide +kernel
theorem dX4_readInto_27 : decode cX4_readInto 27 = .ok (.getfield 15, 3) := by decide +kernel
theorem dX4_readInto_30 : decode cX4_readInto 30 = .ok (.if_icmp .ge 45, 3) := by decide +kernel
theorem dX4_readInto_33 : decode cX4_readInto 33 = .ok (.aload_n 0, 1) := by decide +kernel
theorem dX4_readInto_34 : decode cX4_readInto 34 = .ok (.getfield 37, 3) := by decide +kernel
theorem dX4_readInto_37 : decode cX4_readInto 37 = .ok (.ifCond .eq 38, 3) := by decide +kernel
theorem dX4_readInto_40 : decode cX4_readInto 40 = .ok (.aload_n 0, 1) := by decide +kernel
theorem dX4_readInto_41 : decode cX4_readInto 41 = .ok (.aload_n 1, 1) := by decide +kernel
theorem dX4_readInto_42 : decode cX4_readInto 42 = .ok (.iload_n 2, 1) := by decide +kernel
theorem dX4_readInto_43 : decode cX4_readInto 43 = .ok (.ifCond .ne 7, 3) := by decide +kernel
theorem dX4_readInto_46 : decode cX4_readInto 46 = .ok (.iconst 1, 1) := by decide +kernel
theorem dX4_readInto_47 : decode cX4_readInto 47 = .ok (.goto 4, 3) := by decide +kernel
theorem dX4_readInto_50 : decode cX4_readInto 50 = .ok (.iconst 0, 1) := by decide +kernel
theorem dX4_readInto_51 : decode cX4_readInto 51 = .ok (.invokevirtual 40, 3) := by decide +kernel
theorem dX4_readInto_54 : decode cX4_readInto 54 = .ok (.ifCond .ne 11, 3) := by decide +kernel
theorem dX4_readInto_57 : decode cX4_readInto 57 = .ok (.bipush (-10), 2) := by decide +kernel
theorem dX4_readInto_59 : decode cX4_readInto 59 = .ok (.aload_n 0, 1) := by decide +kernel
theorem dX4_readInto_60 : decode cX4_readInto 60 = .ok (.getfield 44, 3) := by decide +kernel
theorem dX4_readInto_63 : decode cX4_readInto 63 = .ok (.isub, 1) := by decide +kernel
theorem dX4_readInto_64 : decode cX4_readInto 64 = .ok (.ireturn, 1) := by decide +kernel
theorem dX4_readInto_65 : decode cX4_readInto 65 = .ok (.aload_n 0, 1) := by decide +kernel
theorem dX4_readInto_66 : decode cX4_readInto 66 = .ok (.invokevirtual 34, 3) := by decide +kernel
theorem dX4_readInto_69 : decode cX4_readInto 69 = .ok (.iinc 2 1, 3) := by decide +kernel
theorem dX4_readInto_72 : decode cX4_readInto 72 = .ok (.goto (-47), 3) := by decide +kernel
theorem dX4_readInto_75 : decode cX4_readInto 75 = .ok (.iload_n 2, 1) := by decide +kernel
theorem dX4_readInto_76 : decode cX4_readInto 76 = .ok (.ireturn, 1) := by decide +kernel
theorem dX4_item_0 : decode cX4_item 0 = .ok (.aload_n 0, 1) := by decide +kernel
theorem dX4_item_1 : decode cX4_item 1 = .ok (.getfield 37, 3) := by decide +kernel
theorem dX4_item_4 : decode cX4_item 4 = .ok (.iconst 1, 1) := by decide +kernel
theorem dX4_item_5 : decode cX4_item 5 = .ok (.if_icmp .eq 5, 3) := by decide +kernel
theorem dX4_item_8 : decode cX4_item 8 = .ok (.iconst 0, 1) := by decide +kernel
theorem dX4_item_9 : decode cX4_item 9 = .ok (.ireturn, 1) := by decide +kernel
theorem dX4_item_10 : decode cX4_item 10 = .ok (.aload_n 0, 1) := by decide +kernel
theorem dX4_item_11 : decode cX4_item 11 = .ok (.getfield 47, 3) := by decide +kernel
theorem dX4_item_14 : decode cX4_item 14 = .ok (.lookupswitch 139 #[(103, 50), (109, 97), (112, 68), (115, 74), (121, 118)], 50) := by decide +kernel
theorem dX4_item_64 : decode cX4_item 64 = .ok (.iload_n 2, 1) := by decide +kernel
theorem dX4_item_65 : decode cX4_item 65 = .ok (.ifCond .eq 15, 3) := by decide +kernel
theorem dX4_item_68 : decode cX4_item 68 = .ok (.aload_n 0, 1) := by decide +kernel
theorem dX4_item_69 : decode cX4_item 69 = .ok (.aload_n 1, 1) := by decide +kernel
theorem dX4_item_70 : decode cX4_item 70 = .ok (.invokevirtual 50, 3) := by decide +kernel
theorem dX4_item_73 : decode cX4_item 73 = .ok (.ifCond .eq 7, 3) := by decide +kernel
theorem dX4_item_76 : decode cX4_item 76 = .ok (.iconst 1, 1) := by decide +kernel
theorem dX4_item_77 : decode cX4_item 77 = .ok (.goto 4, 3) := by decide +kernel
theorem dX4_item_80 : decode cX4_item 80 = .ok (.iconst 0, 1) := by decide +kernel
theorem dX4_item_81 : decode cX4_item 81 = .ok (.ireturn, 1) := by decide +kernel
theorem dX4_item_82 : decode cX4_item 82 = .ok (.aload_n 0, 1) := by decide +kernel
theorem dX4_item_83 : decode cX4_item 83 = .ok (.aload_n 1, 1) := by decide +kernel
theorem dX4_item_84 : decode cX4_item 84 = .ok (.invokevirtual 54, 3) := by decide +kernel
theorem dX4_item_87 : decode cX4_item 87 = .ok (.ireturn, 1) := by decide +kernel
theorem dX4_item_88 : decode cX4_item 88 = .ok (.aload_n 1, 1) := by decide +kernel
theorem dX4_item_89 : decode cX4_item 89 = .ok (.getfield 57, 3) := by decide +kernel
theorem dX4_item_92 : decode cX4_item 92 = .ok (.bipush 8, 2) := by decide +kernel
theorem dX4_item_94 : decode cX4_item 94 = .ok (.if_icmp .ge 15, 3) := by decide +kernel
theorem dX4_item_97 : decode cX4_item 97 = .ok (.aload_n 0, 1) := by decide +kernel
theorem dX4_item_98 : decode cX4_item 98 = .ok (.aload_n 1, 1) := by decide +kernel
theorem dX4_item_99 : decode cX4_item 99 = .ok (.invokevirtual 60, 3) := by decide +kernel
theorem dX4_item_102 : decode cX4_item 102 = .ok (.ifCond .eq 7, 3) := by decide +kernel
theorem dX4_item_105 : decode cX4_item 105 = .ok (.iconst 1, 1) := by decide +kernel
theorem dX4_item_106 : decode cX4_item 106 = .ok (.goto 4, 3) := by decide +kernel
theorem dX4_item_109 : decode cX4_item 109 = .ok (.iconst 0, 1) := by decide +kernel
theorem dX4_item_110 : decode cX4_item 110 = .ok (.ireturn, 1) := by decide +kernel
theorem dX4_item_111 : decode cX4_item 111 = .ok (.aload_n 0, 1) := by decide +kernel
theorem dX4_item_112 : decode cX4_item 112 = .ok (.getfield 24, 3) := by decide +kernel
theorem dX4_item_115 : decode cX4_item 115 = .ok (.ifCond .ne 15, 3) := by decide +kernel
theorem dX4_item_118 : decode cX4_item 118 = .ok (.aload_n 0, 1) := by decide +kernel
theorem dX4_item_119 : decode cX4_item 119 = .ok (.aload_n 1, 1) := by decide +kernel
theorem dX4_item_120 : decode cX4_item 120 = .ok (.invokevirtual 63, 3) := by decide +kernel
theorem dX4_item_123 : decode cX4_item 123 = .ok (.ifCond .eq 7, 3) := by decide +kernel
theorem dX4_item_126 : decode cX4_item 126 = .ok (.iconst 1, 1) := by decide +kernel
theorem dX4_item_127 : decode cX4_item 127 = .ok (.goto 4, 3) := by decide +kernel
theorem dX4_item_130 : decode cX4_item 130 = .ok (.iconst 0, 1) := by decide +kernel
theorem dX4_item_131 : decode cX4_item 131 = .ok (.ireturn, 1) := by decide +kernel
theorem dX4_item_132 : decode cX4_item 132 = .ok (.aload_n 0, 1) := by decide +kernel
theorem dX4_item_133 : decode cX4_item 133 = .ok (.getfield 28, 3) := by decide +kernel
theorem dX4_item_136 : decode cX4_item 136 = .ok (.ifCond .ne 15, 3) := by decide +kernel
theorem dX4_item_139 : decode cX4_item 139 = .ok (.aload_n 0, 1) := by decide +kernel
theorem dX4_item_140 : decode cX4_item 140 = .ok (.aload_n 1, 1) := by decide +kernel
theorem dX4_item_141 : decode cX4_item 141 = .ok (.invokevirtual 66, 3) := by decide +kernel
theorem dX4_item_144 : decode cX4_item 144 = .ok (.ifCond .eq 7, 3) := by decide +kernel
theorem dX4_item_147 : decode cX4_item 147 = .ok (.iconst 1, 1) := by decide +kernel
theorem dX4_item_148 : decode cX4_item 148 = .ok (.goto 4, 3) := by decide +kernel
theorem dX4_item_151 : decode cX4_item 151 = .ok (.iconst 0, 1) := by decide +kernel
theorem dX4_item_152 : decode cX4_item 152 = .ok (.ireturn, 1) := by decide +kernel
theorem dX4_item_153 : decode cX4_item 153 = .ok (.iconst 0, 1) := by decide +kernel
theorem dX4_item_154 : decode cX4_item 154 = .ok (.ireturn, 1) := by decide +kernel
theorem dX4_size_0 : decode cX4_size 0 = .ok (.aload_n 0, 1) := by decide +kernel
theorem dX4_size_1 : decode cX4_size 1 = .ok (.iconst 1, 1) := by decide +kernel
theorem dX4_size_2 : decode cX4_size 2 = .ok (.iconst 5, 1) := by decide +kernel
theorem dX4_size_3 : decode cX4_size 3 = .ok (.invokevirtual 69, 3) := by decide +kernel
theorem dX4_size_6 : decode cX4_size 6 = .ok (.ifCond .ne 5, 3) := by decide +kernel
theorem dX4_size_9 : decode cX4_size 9 = .ok (.iconst 0, 1) := by decide +kernel
theorem dX4_size_10 : decode cX4_size 10 = .ok (.ireturn, 1) := by decide +kernel
theorem dX4_size_11 : decode cX4_size 11 = .ok (.aload_n 1, 1) := by decide +kernel
theorem dX4_size_12 : decode cX4_size 12 = .ok (.aload_n 0, 1) := by decide +kernel
theorem dX4_size_13 : decode cX4_size 13 = .ok (.getfield 47, 3) := by decide +kernel
theorem dX4_size_16 : decode cX4_size 16 = .ok (.putfield 73, 3) := by decide +kernel
theorem dX4_size_19 : decode cX4_size 19 = .ok (.aload_n 0, 1) := by decide +kernel
theorem dX4_size_20 : decode cX4_size 20 = .ok (.iconst 1, 1) := by decide +kernel
theorem dX4_size_21 : decode cX4_size 21 = .ok (.iconst 4, 1) := by decide +kernel
theorem dX4_size_22 : decode cX4_size 22 = .ok (.invokevirtual 69, 3) := by decide +kernel
theorem dX4_size_25 : decode cX4_size 25 = .ok (.ifCond .ne 5, 3) := by decide +kernel
theorem dX4_size_28 : decode cX4_size 28 = .ok (.iconst 0, 1) := by decide +kernel
theorem dX4_size_29 : decode cX4_size 29 = .ok (.ireturn, 1) := by decide +kernel
theorem dX4_size_30 : decode cX4_size 30 = .ok (.aload_n 1, 1) := by decide +kernel
theorem dX4_size_31 : decode cX4_size 31 = .ok (.aload_n 0, 1) := by decide +kernel
theorem dX4_size_32 : decode cX4_size 32 = .ok (.getfield 47, 3) := by decide +kernel
theorem dX4_size_35 : decode cX4_size 35 = .ok (.putfield 76, 3) := by decide +kernel
theorem dX4_size_38 : decode cX4_size 38 = .ok (.aload_n 0, 1) := by decide +kernel
theorem dX4_size_39 : decode cX4_size 39 = .ok (.invokevirtual 79, 3) := by decide +kernel
theorem dX4_size_42 : decode cX4_size 42 = .ok (.ireturn, 1) := by decide +kernel
theorem dX4_glass_0 : decode cX4_glass 0 = .ok (.aload_n 0, 1) := by decide +kernel
theorem dX4_glass_1 : decode cX4_glass 1 = .ok (.iconst 0, 1) := by decide +kernel
theorem dX4_glass_2 : decode cX4_glass 2 = .ok (.aload_n 1, 1) := by decide +kernel
theorem dX4_glass_3 : decode cX4_glass 3 = .ok (.getfield 73, 3) := by decide +kernel
theorem dX4_glass_6 : decode cX4_glass 6 = .ok (.iconst 1, 1) := by decide +kernel
theorem dX4_glass_7 : decode cX4_glass 7 = .ok (.isub, 1) := by decide +kernel
theorem dX4_glass_8 : decode cX4_glass 8 = .ok (.invokevirtual 69, 3) := by decide +kernel
theorem dX4_glass_11 : decode cX4_glass 11 = .ok (.ifCond .ne 5, 3) := by decide +kernel
theorem dX4_glass_14 : decode cX4_glass 14 = .ok (.iconst 0, 1) := by decide +kernel
theorem dX4_glass_15 : decode cX4_glass 15 = .ok (.ireturn, 1) := by decide +kernel
theorem dX4_glass_16 : decode cX4_glass 16 = .ok (.aload_n 0, 1) := by decide +kernel
theorem dX4_glass_17 : decode cX4_glass 17 = .ok (.getfield 47, 3) := by decide +kernel
theorem dX4_glass_20 : decode cX4_glass 20 = .ok (.istore_n 2, 1) := by decide +kernel
theorem dX4_glass_21 : decode cX4_glass 21 = .ok (.aload_n 0, 1) := by decide +kernel
theorem dX4_glass_22 : decode cX4_glass 22 = .ok (.iconst 0, 1) := by decide +kernel
theorem dX4_glass_23 : decode cX4_glass 23 = .ok (.aload_n 1, 1) := by decide +kernel
theorem dX4_glass_24 : decode cX4_glass 24 = .ok (.getfield 76, 3) := by decide +kernel
theorem dX4_glass_27 : decode cX4_glass 27 = .ok (.iconst 1, 1) := by decide +kernel
theorem dX4_glass_28 : decode cX4_glass 28 = .ok (.isub, 1) := by decide +kernel
theorem dX4_glass_29 : decode cX4_glass 29 = .ok (.invokevirtual 69, 3) := by decide +kernel
theorem dX4_glass_32 : decode cX4_glass 32 = .ok (.ifCond .ne 5, 3) := by decide +kernel
theorem dX4_glass_35 : decode cX4_glass 35 = .ok (.iconst 0, 1) := by decide +kernel
theorem dX4_glass_36 : decode cX4_glass 36 = .ok (.ireturn, 1) := by decide +kernel
theorem dX4_glass_37 : decode cX4_glass 37 = .ok (.iconst 4, 1) := by decide +kernel
theorem dX4_glass_38 : decode cX4_glass 38 = .ok (.iload_n 2, 1) := by decide +kernel
theorem dX4_glass_39 : decode cX4_glass 39 = .ok (.imul, 1) := by decide +kernel
theorem dX4_glass_40 : decode cX4_glass 40 = .ok (.aload_n 0, 1) := by decide +kernel
theorem dX4_glass_41 : decode cX4_glass 41 = .ok (.getfield 47, 3) := by decide +kernel
theorem dX4_glass_44 : decode cX4_glass 44 = .ok (.iadd, 1) := by decide +kernel
theorem dX4_glass_45 : decode cX4_glass 45 = .ok (.istore_n 3, 1) := by decide +kernel
theorem dX4_glass_46 : decode cX4_glass 46 = .ok (.aload_n 0, 1) := by decide +kernel
theorem dX4_glass_47 : decode cX4_glass 47 = .ok (.iconst 0, 1) := by decide +kernel
theorem dX4_glass_48 : decode cX4_glass 48 = .ok (.bipush 7, 2) := by decide +kernel
theorem dX4_glass_50 : decode cX4_glass 50 = .ok (.invokevirtual 69, 3) := by decide +kernel
theorem dX4_glass_53 : decode cX4_glass 53 = .ok (.ifCond .ne 5, 3) := by decide +kernel
theorem dX4_glass_56 : decode cX4_glass 56 = .ok (.iconst 0, 1) := by decide +kernel
theorem dX4_glass_57 : decode cX4_glass 57 = .ok (.ireturn, 1) := by decide +kernel
theorem dX4_glass_58 : decode cX4_glass 58 = .ok (.aload_n 1, 1) := by decide +kernel
theorem dX4_glass_59 : decode cX4_glass 59 = .ok (.getfield 83, 3) := by decide +kernel
theorem dX4_glass_62 : decode cX4_glass 62 = .ok (.iload_n 3, 1) := by decide +kernel
theorem dX4_glass_63 : decode cX4_glass 63 = .ok (.aload_n 0, 1) := by decide +kernel
theorem dX4_glass_64 : decode cX4_glass 64 = .ok (.getfield 47, 3) := by decide +kernel
theorem dX4_glass_67 : decode cX4_glass 67 = .ok (.iastore, 1) := by decide +kernel
theorem dX4_glass_68 : decode cX4_glass 68 = .ok (.aload_n 0, 1) := by decide +kernel
theorem dX4_glass_69 : decode cX4_glass 69 = .ok (.invokevirtual 79, 3) := by decide +kernel
theorem dX4_glass_72 : decode cX4_glass 72 = .ok (.ireturn, 1) := by decide +kernel
theorem dX4_sheetColour_0 : decode cX4_sheetColour 0 = .ok (.aload_n 0, 1) := by decide +kernel
theorem dX4_sheetColour_1 : decode cX4_sheetColour 1 = .ok (.iconst 0, 1) := by decide +kernel
theorem dX4_sheetColour_2 : decode cX4_sheetColour 2 = .ok (.bipush 7, 2) := by decide +kernel
theorem dX4_sheetColour_4 : decode cX4_sheetColour 4 = .ok (.invokevirtual 69, 3) := by decide +kernel
theorem dX4_sheetColour_7 : decode cX4_sheetColour 7 = .ok (.ifCond .ne 5, 3) := by decide +kernel
theorem dX4_sheetColour_10 : decode cX4_sheetColour 10 = .ok (.iconst 0, 1) := by decide +kernel
theorem dX4_sheetColour_11 : decode cX4_sheetColour 11 = .ok (.ireturn, 1) := by decide +kernel
theorem dX4_sheetColour_12 : decode cX4_sheetColour 12 = .ok (.aload_n 1, 1) := by decide +kernel
theorem dX4_sheetColour_13 : decode cX4_sheetColour 13 = .ok (.aload_n 0, 1) := by decide +kernel
theorem dX4_sheetColour_14 : decode cX4_sheetColour 14 = .ok (.getfield 47, 3) := by decide +kernel
theorem dX4_sheetColour_17 : decode cX4_sheetColour 17 = .ok (.invokevirtual 85, 3) := by decide +kernel
theorem dX4_sheetColour_20 : decode cX4_sheetColour 20 = .ok (.aload_n 0, 1) := by decide +kernel
theorem dX4_sheetColour_21 : decode cX4_sheetColour 21 = .ok (.invokevirtual 79, 3) := by decide +kernel
theorem dX4_sheetColour_24 : decode cX4_sheetColour 24 = .ok (.ireturn, 1) := by decide +kernel
theorem dX4_mirror_0 : decode cX4_mirror 0 = .ok (.aload_n 0, 1) := by decide +kernel
theorem dX4_mirror_1 : decode cX4_mirror 1 = .ok (.iconst 1, 1) := by decide +kernel
theorem dX4_mirror_2 : decode cX4_mirror 2 = .ok (.bipush 12, 2) := by decide +kernel
theorem dX4_mirror_4 : decode cX4_mirror 4 = .ok (.invokevirtual 69, 3) := by decide +kernel
theorem dX4_mirror_7 : decode cX4_mirror 7 = .ok (.ifCond .ne 5, 3) := by decide +kernel
theorem dX4_mirror_10 : decode cX4_mirror 10 = .ok (.iconst 0, 1) := by decide +kernel
theorem dX4_mirror_11 : decode cX4_mirror 11 = .ok (.ireturn, 1) := by decide +kernel
theorem dX4_mirror_12 : decode cX4_mirror 12 = .ok (.aload_n 1, 1) := by decide +kernel
theorem dX4_mirror_13 : decode cX4_mirror 13 = .ok (.aload_n 0, 1) := by decide +kernel
theorem dX4_mirror_14 : decode cX4_mirror 14 = .ok (.getfield 47, 3) := by decide +kernel
theorem dX4_mirror_17 : decode cX4_mirror 17 = .ok (.putfield 89, 3) := by decide +kernel
theorem dX4_mirror_20 : decode cX4_mirror 20 = .ok (.aload_n 0, 1) := by decide +kernel
theorem dX4_mirror_21 : decode cX4_mirror 21 = .ok (.iconst 1, 1) := by decide +kernel
theorem dX4_mirror_22 : decode cX4_mirror 22 = .ok (.putfield 24, 3) := by decide +kernel
theorem dX4_mirror_25 : decode cX4_mirror 25 = .ok (.aload_n 0, 1) := by decide +kernel
theorem dX4_mirror_26 : decode cX4_mirror 26 = .ok (.invokevirtual 79, 3) := by decide +kernel
theorem dX4_mirror_29 : decode cX4_mirror 29 = .ok (.ireturn, 1) := by decide +kernel
theorem dX4_season_0 : decode cX4_season 0 = .ok (.aload_n 0, 1) := by decide +kernel
theorem dX4_season_1 : decode cX4_season 1 = .ok (.iconst 0, 1) := by decide +kernel
theorem dX4_season_2 : decode cX4_season 2 = .ok (.iconst 3, 1) := by decide +kernel
theorem dX4_season_3 : decode cX4_season 3 = .ok (.invokevirtual 69, 3) := by decide +kernel
theorem dX4_season_6 : decode cX4_season 6 = .ok (.ifCond .ne 5, 3) := by decide +kernel
theorem dX4_season_9 : decode cX4_season 9 = .ok (.iconst 0, 1) := by decide +kernel
theorem dX4_season_10 : decode cX4_season 10 = .ok (.ireturn, 1) := by decide +kernel
theorem dX4_season_11 : decode cX4_season 11 = .ok (.aload_n 1, 1) := by decide +kernel
theorem dX4_season_12 : decode cX4_season 12 = .ok (.aload_n 0, 1) := by decide +kernel
theorem dX4_season_13 : decode cX4_season 13 = .ok (.getfield 47, 3) := by decide +kernel
theorem dX4_season_16 : decode cX4_season 16 = .ok (.putfield 91, 3) := by decide +kernel
theorem dX4_season_19 : decode cX4_season 19 = .ok (.aload_n 0, 1) := by decide +kernel
theorem dX4_season_20 : decode cX4_season 20 = .ok (.iconst 1, 1) := by decide +kernel
theorem dX4_season_21 : decode cX4_season 21 = .ok (.putfield 28, 3) := by decide +kernel
theorem dX4_season_24 : decode cX4_season 24 = .ok (.aload_n 0, 1) := by decide +kernel
theorem dX4_season_25 : decode cX4_season 25 = .ok (.invokevirtual 79, 3) := by decide +kernel
theorem dX4_season_28 : decode cX4_season 28 = .ok (.ireturn, 1) := by decide +kernel
theorem dX4_number_0 : decode cX4_number 0 = .ok (.aload_n 0, 1) := by decide +kernel
theorem dX4_number_1 : decode cX4_number 1 = .ok (.invokevirtual 34, 3) := by decide +kernel
theorem dX4_number_4 : decode cX4_number 4 = .ok (.aload_n 0, 1) := by decide +kernel
theorem dX4_number_5 : decode cX4_number 5 = .ok (.getfield 37, 3) := by decide +kernel
theorem dX4_number_8 : decode cX4_number 8 = .ok (.iconst 2, 1) := by decide +kernel
theorem dX4_number_9 : decode cX4_number 9 = .ok (.if_icmp .ne 23, 3) := by decide +kernel
theorem dX4_number_12 : decode cX4_number 12 = .ok (.aload_n 0, 1) := by decide +kernel
theorem dX4_number_13 : decode cX4_number 13 = .ok (.getfield 47, 3) := by decide +kernel
theorem dX4_number_16 : decode cX4_number 16 = .ok (.iload_n 1, 1) := by decide +kernel
theorem dX4_number_17 : decode cX4_number 17 = .ok (.if_icmp .lt 15, 3) := by decide +kernel
theorem dX4_number_20 : decode cX4_number 20 = .ok (.aload_n 0, 1) := by decide +kernel
theorem dX4_number_21 : decode cX4_number 21 = .ok (.getfield 47, 3) := by decide +kernel
theorem dX4_number_24 : decode cX4_number 24 = .ok (.iload_n 2, 1) := by decide +kernel
theorem dX4_number_25 : decode cX4_number 25 = .ok (.if_icmp .gt 7, 3) := by decide +kernel
theorem dX4_number_28 : decode cX4_number 28 = .ok (.iconst 1, 1) := by decide +kernel
theorem dX4_number_29 : decode cX4_number 29 = .ok (.goto 4, 3) := by decide +kernel
theorem dX4_number_32 : decode cX4_number 32 = .ok (.iconst 0, 1) := by decide +kernel
theorem dX4_number_33 : decode cX4_number 33 = .ok (.ireturn, 1) := by decide +kernel
theorem dX4_stop_0 : decode cX4_stop 0 = .ok (.aload_n 0, 1) := by decide +kernel
theorem dX4_stop_1 : decode cX4_stop 1 = .ok (.invokevirtual 34, 3) := by decide +kernel
theorem dX4_stop_4 : decode cX4_stop 4 = .ok (.aload_n 0, 1) := by decide +kernel
theorem dX4_stop_5 : decode cX4_stop 5 = .ok (.getfield 37, 3) := by decide +kernel
theorem dX4_stop_8 : decode cX4_stop 8 = .ok (.iconst 3, 1) := by decide +kernel
theorem dX4_stop_9 : decode cX4_stop 9 = .ok (.if_icmp .ne 7, 3) := by decide +kernel
theorem dX4_stop_12 : decode cX4_stop 12 = .ok (.iconst 1, 1) := by decide +kernel
theorem dX4_stop_13 : decode cX4_stop 13 = .ok (.goto 4, 3) := by decide +kernel
theorem dX4_stop_16 : decode cX4_stop 16 = .ok (.iconst 0, 1) := by decide +kernel
theorem dX4_stop_17 : decode cX4_stop 17 = .ok (.ireturn, 1) := by decide +kernel
theorem dX4_step_0 : decode cX4_step 0 = .ok (.aload_n 0, 1) := by decide +kernel
theorem dX4_step_1 : decode cX4_step 1 = .ok (.getfield 31, 3) := by decide +kernel
theorem dX4_step_4 : decode cX4_step 4 = .ok (.aload_n 0, 1) := by decide +kernel
theorem dX4_step_5 : decode cX4_step 5 = .ok (.getfield 15, 3) := by decide +kernel
theorem dX4_step_8 : decode cX4_step 8 = .ok (.if_icmp .ge 30, 3) := by decide +kernel
theorem dX4_step_11 : decode cX4_step 11 = .ok (.aload_n 0, 1) := by decide +kernel
theorem dX4_step_12 : decode cX4_step 12 = .ok (.getfield 11, 3) := by decide +kernel
theorem dX4_step_15 : decode cX4_step 15 = .ok (.aload_n 0, 1) := by decide +kernel
theorem dX4_step_16 : decode cX4_step 16 = .ok (.getfield 31, 3) := by decide +kernel
theorem dX4_step_19 : decode cX4_step 19 = .ok (.iaload, 1) := by decide +kernel
theorem dX4_step_20 : decode cX4_step 20 = .ok (.bipush 32, 2) := by decide +kernel
theorem dX4_step_22 : decode cX4_step 22 = .ok (.if_icmp .ne 16, 3) := by decide +kernel
theorem dX4_step_25 : decode cX4_step 25 = .ok (.aload_n 0, 1) := by decide +kernel
theorem dX4_step_26 : decode cX4_step 26 = .ok (.dup, 1) := by decide +kernel
theorem dX4_step_27 : decode cX4_step 27 = .ok (.getfield 31, 3) := by decide +kernel
theorem dX4_step_30 : decode cX4_step 30 = .ok (.iconst 1, 1) := by decide +kernel
theorem dX4_step_31 : decode cX4_step 31 = .ok (.iadd, 1) := by decide +kernel
theorem dX4_step_32 : decode cX4_step 32 = .ok (.putfield 31, 3) := by decide +kernel
theorem dX4_step_35 : decode cX4_step 35 = .ok (.goto (-35), 3) := by decide +kernel
theorem dX4_step_38 : decode cX4_step 38 = .ok (.aload_n 0, 1) := by decide +kernel
theorem dX4_step_39 : decode cX4_step 39 = .ok (.aload_n 0, 1) := by decide +kernel
theorem dX4_step_40 : decode cX4_step 40 = .ok (.getfield 31, 3) := by decide +kernel
theorem dX4_step_43 : decode cX4_step 43 = .ok (.putfield 44, 3) := by decide +kernel
theorem dX4_step_46 : decode cX4_step 46 = .ok (.aload_n 0, 1) := by decide +kernel
theorem dX4_step_47 : decode cX4_step 47 = .ok (.getfield 31, 3) := by decide +kernel
theorem dX4_step_50 : decode cX4_step 50 = .ok (.aload_n 0, 1) := by decide +kernel
theorem dX4_step_51 : decode cX4_step 51 = .ok (.getfield 15, 3) := by decide +kernel
theorem dX4_step_54 : decode cX4_step 54 = .ok (.if_icmp .lt 11, 3) := by decide +kernel
theorem dX4_step_57 : decode cX4_step 57 = .ok (.aload_n 0, 1) := by decide +kernel
theorem dX4_step_58 : decode cX4_step 58 = .ok (.iconst 0, 1) := by decide +kernel
theorem dX4_step_59 : decode cX4_step 59 = .ok (.putfield 37, 3) := by decide +kernel
theorem dX4_step_62 : decode cX4_step 62 = .ok (.goto 106, 3) := by decide +kernel
theorem dX4_step_65 : decode cX4_step 65 = .ok (.aload_n 0, 1) := by decide +kernel
theorem dX4_step_66 : decode cX4_step 66 = .ok (.getfield 11, 3) := by decide +kernel
theorem dX4_step_69 : decode cX4_step 69 = .ok (.aload_n 0, 1) := by decide +kernel
theorem dX4_step_70 : decode cX4_step 70 = .ok (.getfield 31, 3) := by decide +kernel
theorem dX4_step_73 : decode cX4_step 73 = .ok (.iaload, 1) := by decide +kernel
theorem dX4_step_74 : decode cX4_step 74 = .ok (.bipush 97, 2) := by decide +kernel
theorem dX4_step_76 : decode cX4_step 76 = .ok (.if_icmp .lt 24, 3) := by decide +kernel
theorem dX4_step_79 : decode cX4_step 79 = .ok (.aload_n 0, 1) := by decide +kernel
theorem dX4_step_80 : decode cX4_step 80 = .ok (.getfield 11, 3) := by decide +kernel
theorem dX4_step_83 : decode cX4_step 83 = .ok (.aload_n 0, 1) := by decide +kernel
theorem dX4_step_84 : decode cX4_step 84 = .ok (.getfield 31, 3) := by decide +kernel
theorem dX4_step_87 : decode cX4_step 87 = .ok (.iaload, 1) := by decide +kernel
theorem dX4_step_88 : decode cX4_step 88 = .ok (.bipush 122, 2) := by decide +kernel
theorem dX4_step_90 : decode cX4_step 90 = .ok (.if_icmp .gt 10, 3) := by decide +kernel
theorem dX4_step_93 : decode cX4_step 93 = .ok (.aload_n 0, 1) := by decide +kernel
theorem dX4_step_94 : decode cX4_step 94 = .ok (.invokevirtual 93, 3) := by decide +kernel
theorem dX4_step_97 : decode cX4_step 97 = .ok (.goto 71, 3) := by decide +kernel
theorem dX4_step_100 : decode cX4_step 100 = .ok (.aload_n 0, 1) := by decide +kernel
theorem dX4_step_101 : decode cX4_step 101 = .ok (.getfield 11, 3) := by decide +kernel
theorem dX4_step_104 : decode cX4_step 104 = .ok (.aload_n 0, 1) := by decide +kernel
theorem dX4_step_105 : decode cX4_step 105 = .ok (.getfield 31, 3) := by decide +kernel
theorem dX4_step_108 : decode cX4_step 108 = .ok (.iaload, 1) := by decide +kernel
theorem dX4_step_109 : decode cX4_step 109 = .ok (.bipush 48, 2) := by decide +kernel
theorem dX4_step_111 : decode cX4_step 111 = .ok (.if_icmp .lt 24, 3) := by decide +kernel
theorem dX4_step_114 : decode cX4_step 114 = .ok (.aload_n 0, 1) := by decide +kernel
theorem dX4_step_115 : decode cX4_step 115 = .ok (.getfield 11, 3) := by decide +kernel
theorem dX4_step_118 : decode cX4_step 118 = .ok (.aload_n 0, 1) := by decide +kernel
theorem dX4_step_119 : decode cX4_step 119 = .ok (.getfield 31, 3) := by decide +kernel
theorem dX4_step_122 : decode cX4_step 122 = .ok (.iaload, 1) := by decide +kernel
theorem dX4_step_123 : decode cX4_step 123 = .ok (.bipush 57, 2) := by decide +kernel
theorem dX4_step_125 : decode cX4_step 125 = .ok (.if_icmp .gt 10, 3) := by decide +kernel
theorem dX4_step_128 : decode cX4_step 128 = .ok (.aload_n 0, 1) := by decide +kernel
theorem dX4_step_129 : decode cX4_step 129 = .ok (.invokevirtual 96, 3) := by decide +kernel
theorem dX4_step_132 : decode cX4_step 132 = .ok (.goto 36, 3) := by decide +kernel
theorem dX4_step_135 : decode cX4_step 135 = .ok (.aload_n 0, 1) := by decide +kernel
theorem dX4_step_136 : decode cX4_step 136 = .ok (.aload_n 0, 1) := by decide +kernel
theorem dX4_step_137 : decode cX4_step 137 = .ok (.getfield 11, 3) := by decide +kernel
theorem dX4_step_140 : decode cX4_step 140 = .ok (.aload_n 0, 1) := by decide +kernel
theorem dX4_step_141 : decode cX4_step 141 = .ok (.getfield 31, 3) := by decide +kernel
theorem dX4_step_144 : decode cX4_step 144 = .ok (.iaload, 1) := by decide +kernel
theorem dX4_step_145 : decode cX4_step 145 = .ok (.bipush 59, 2) := by decide +kernel
theorem dX4_step_147 : decode cX4_step 147 = .ok (.if_icmp .ne 7, 3) := by decide +kernel
theorem dX4_step_150 : decode cX4_step 150 = .ok (.iconst 3, 1) := by decide +kernel
theorem dX4_step_151 : decode cX4_step 151 = .ok (.goto 4, 3) := by decide +kernel
theorem dX4_step_154 : decode cX4_step 154 = .ok (.iconst 4, 1) := by decide +kernel
theorem dX4_step_155 : decode cX4_step 155 = .ok (.putfield 37, 3) := by decide +kernel
theorem dX4_step_158 : decode cX4_step 158 = .ok (.aload_n 0, 1) := by decide +kernel
theorem dX4_step_159 : decode cX4_step 159 = .ok (.dup, 1) := by decide +kernel
theorem dX4_step_160 : decode cX4_step 160 = .ok (.getfield 31, 3) := by decide +kernel
theorem dX4_step_163 : decode cX4_step 163 = .ok (.iconst 1, 1) := by decide +kernel
theorem dX4_step_164 : decode cX4_step 164 = .ok (.iadd, 1) := by decide +kernel
theorem dX4_step_165 : decode cX4_step 165 = .ok (.putfield 31, 3) := by decide +kernel
theorem dX4_step_168 : decode cX4_step 168 = .ok (.return_, 1) := by decide +kernel
theorem dX4_letters_0 : decode cX4_letters 0 = .ok (.aload_n 0, 1) := by decide +kernel
theorem dX4_letters_1 : decode cX4_letters 1 = .ok (.aload_n 0, 1) := by decide +kernel
theorem dX4_letters_2 : decode cX4_letters 2 = .ok (.getfield 11, 3) := by decide +kernel
theorem dX4_letters_5 : decode cX4_letters 5 = .ok (.aload_n 0, 1) := by decide +kernel
theorem dX4_letters_6 : decode cX4_letters 6 = .ok (.getfield 44, 3) := by decide +kernel
theorem dX4_letters_9 : decode cX4_letters 9 = .ok (.iaload, 1) := by decide +kernel
theorem dX4_letters_10 : decode cX4_letters 10 = .ok (.putfield 47, 3) := by decide +kernel
theorem dX4_letters_13 : decode cX4_letters 13 = .ok (.aload_n 0, 1) := by decide +kernel
theorem dX4_letters_14 : decode cX4_letters 14 = .ok (.getfield 31, 3) := by decide +kernel
theorem dX4_letters_17 : decode cX4_letters 17 = .ok (.aload_n 0, 1) := by decide +kernel
theorem dX4_letters_18 : decode cX4_letters 18 = .ok (.getfield 15, 3) := by decide +kernel
theorem dX4_letters_21 : decode cX4_letters 21 = .ok (.if_icmp .ge 44, 3) := by decide +kernel
theorem dX4_letters_24 : decode cX4_letters 24 = .ok (.aload_n 0, 1) := by decide +kernel
theorem dX4_letters_25 : decode cX4_letters 25 = .ok (.getfield 11, 3) := by decide +kernel
theorem dX4_letters_28 : decode cX4_letters 28 = .ok (.aload_n 0, 1) := by decide +kernel
theorem dX4_letters_29 : decode cX4_letters 29 = .ok (.getfield 31, 3) := by decide +kernel
theorem dX4_letters_32 : decode cX4_letters 32 = .ok (.iaload, 1) := by decide +kernel
theorem dX4_letters_33 : decode cX4_letters 33 = .ok (.bipush 97, 2) := by decide +kernel
theorem dX4_letters_35 : decode cX4_letters 35 = .ok (.if_icmp .lt 30, 3) := by decide +kernel
theorem dX4_letters_38 : decode cX4_letters 38 = .ok (.aload_n 0, 1) := by decide +kernel
theorem dX4_letters_39 : decode cX4_letters 39 = .ok (.getfield 11, 3) := by decide +kernel
theorem dX4_letters_42 : decode cX4_letters 42 = .ok (.aload_n 0, 1) := by decide +kernel
theorem dX4_letters_43 : decode cX4_letters 43 = .ok (.getfield 31, 3) := by decide +kernel
theorem dX4_letters_46 : decode cX4_letters 46 = .ok (.iaload, 1) := by decide +kernel
theorem dX4_letters_47 : decode cX4_letters 47 = .ok (.bipush 122, 2) := by decide +kernel
theorem dX4_letters_49 : decode cX4_letters 49 = .ok (.if_icmp .gt 16, 3) := by decide +kernel
theorem dX4_letters_52 : decode cX4_letters 52 = .ok (.aload_n 0, 1) := by decide +kernel
theorem dX4_letters_53 : decode cX4_letters 53 = .ok (.dup, 1) := by decide +kernel
theorem dX4_letters_54 : decode cX4_letters 54 = .ok (.getfield 31, 3) := by decide +kernel
theorem dX4_letters_57 : decode cX4_letters 57 = .ok (.iconst 1, 1) := by decide +kernel
theorem dX4_letters_58 : decode cX4_letters 58 = .ok (.iadd, 1) := by decide +kernel
theorem dX4_letters_59 : decode cX4_letters 59 = .ok (.putfield 31, 3) := by decide +kernel
theorem dX4_letters_62 : decode cX4_letters 62 = .ok (.goto (-49), 3) := by decide +kernel
theorem dX4_letters_65 : decode cX4_letters 65 = .ok (.aload_n 0, 1) := by decide +kernel
theorem dX4_letters_66 : decode cX4_letters 66 = .ok (.aload_n 0, 1) := by decide +kernel
theorem dX4_letters_67 : decode cX4_letters 67 = .ok (.getfield 31, 3) := by decide +kernel
theorem dX4_letters_70 : decode cX4_letters 70 = .ok (.aload_n 0, 1) := by decide +kernel
theorem dX4_letters_71 : decode cX4_letters 71 = .ok (.getfield 44, 3) := by decide +kernel
theorem dX4_letters_74 : decode cX4_letters 74 = .ok (.isub, 1) := by decide +kernel
theorem dX4_letters_75 : decode cX4_letters 75 = .ok (.iconst 1, 1) := by decide +kernel
theorem dX4_letters_76 : decode cX4_letters 76 = .ok (.if_icmp .ne 7, 3) := by decide +kernel
theorem dX4_letters_79 : decode cX4_letters 79 = .ok (.iconst 1, 1) := by decide +kernel
theorem dX4_letters_80 : decode cX4_letters 80 = .ok (.goto 4, 3) := by decide +kernel
theorem dX4_letters_83 : decode cX4_letters 83 = .ok (.iconst 4, 1) := by decide +kernel
theorem dX4_letters_84 : decode cX4_letters 84 = .ok (.putfield 37, 3) := by decide +kernel
theorem dX4_letters_87 : decode cX4_letters 87 = .ok (.return_, 1) := by decide +kernel
theorem dX4_digits_0 : decode cX4_digits 0 = .ok (.aload_n 0, 1) := by decide +kernel
theorem dX4_digits_1 : decode cX4_digits 1 = .ok (.iconst 0, 1) := by decide +kernel
theorem dX4_digits_2 : decode cX4_digits 2 = .ok (.putfield 47, 3) := by decide +kernel
theorem dX4_digits_5 : decode cX4_digits 5 = .ok (.aload_n 0, 1) := by decide +kernel
theorem dX4_digits_6 : decode cX4_digits 6 = .ok (.getfield 31, 3) := by decide +kernel
theorem dX4_digits_9 : decode cX4_digits 9 = .ok (.aload_n 0, 1) := by decide +kernel
theorem dX4_digits_10 : decode cX4_digits 10 = .ok (.getfield 15, 3) := by decide +kernel
theorem dX4_digits_13 : decode cX4_digits 13 = .ok (.if_icmp .ge 84, 3) := by decide +kernel
theorem dX4_digits_16 : decode cX4_digits 16 = .ok (.aload_n 0, 1) := by decide +kernel
theorem dX4_digits_17 : decode cX4_digits 17 = .ok (.getfield 11, 3) := by decide +kernel
theorem dX4_digits_20 : decode cX4_digits 20 = .ok (.aload_n 0, 1) := by decide +kernel
theorem dX4_digits_21 : decode cX4_digits 21 = .ok (.getfield 31, 3) := by decide +kernel
theorem dX4_digits_24 : decode cX4_digits 24 = .ok (.iaload, 1) := by decide +kernel
theorem dX4_digits_25 : decode cX4_digits 25 = .ok (.bipush 48, 2) := by decide +kernel
theorem dX4_digits_27 : decode cX4_digits 27 = .ok (.if_icmp .lt 70, 3) := by decide +kernel
theorem dX4_digits_30 : decode cX4_digits 30 = .ok (.aload_n 0, 1) := by decide +kernel
theorem dX4_digits_31 : decode cX4_digits 31 = .ok (.getfield 11, 3) := by decide +kernel
theorem dX4_digits_34 : decode cX4_digits 34 = .ok (.aload_n 0, 1) := by decide +kernel
theorem dX4_digits_35 : decode cX4_digits 35 = .ok (.getfield 31, 3) := by decide +kernel
theorem dX4_digits_38 : decode cX4_digits 38 = .ok (.iaload, 1) := by decide +kernel
theorem dX4_digits_39 : decode cX4_digits 39 = .ok (.bipush 57, 2) := by decide +kernel
theorem dX4_digits_41 : decode cX4_digits 41 = .ok (.if_icmp .gt 56, 3) := by decide +kernel
theorem dX4_digits_44 : decode cX4_digits 44 = .ok (.aload_n 0, 1) := by decide +kernel
theorem dX4_digits_45 : decode cX4_digits 45 = .ok (.aload_n 0, 1) := by decide +kernel
theorem dX4_digits_46 : decode cX4_digits 46 = .ok (.getfield 47, 3) := by decide +kernel
theorem dX4_digits_49 : decode cX4_digits 49 = .ok (.bipush 99, 2) := by decide +kernel
theorem dX4_digits_51 : decode cX4_digits 51 = .ok (.if_icmp .le 10, 3) := by decide +kernel
theorem dX4_digits_54 : decode cX4_digits 54 = .ok (.aload_n 0, 1) := by decide +kernel
theorem dX4_digits_55 : decode cX4_digits 55 = .ok (.getfield 47, 3) := by decide +kernel
theorem dX4_digits_58 : decode cX4_digits 58 = .ok (.goto 23, 3) := by decide +kernel
theorem dX4_digits_61 : decode cX4_digits 61 = .ok (.aload_n 0, 1) := by decide +kernel
theorem dX4_digits_62 : decode cX4_digits 62 = .ok (.getfield 47, 3) := by decide +kernel
theorem dX4_digits_65 : decode cX4_digits 65 = .ok (.bipush 10, 2) := by decide +kernel
theorem dX4_digits_67 : decode cX4_digits 67 = .ok (.imul, 1) := by decide +kernel
theorem dX4_digits_68 : decode cX4_digits 68 = .ok (.aload_n 0, 1) := by decide +kernel
theorem dX4_digits_69 : decode cX4_digits 69 = .ok (.getfield 11, 3) := by decide +kernel
theorem dX4_digits_72 : decode cX4_digits 72 = .ok (.aload_n 0, 1) := by decide +kernel
theorem dX4_digits_73 : decode cX4_digits 73 = .ok (.getfield 31, 3) := by decide +kernel
theorem dX4_digits_76 : decode cX4_digits 76 = .ok (.iaload, 1) := by decide +kernel
theorem dX4_digits_77 : decode cX4_digits 77 = .ok (.iadd, 1) := by decide +kernel
theorem dX4_digits_78 : decode cX4_digits 78 = .ok (.bipush 48, 2) := by decide +kernel
theorem dX4_digits_80 : decode cX4_digits 80 = .ok (.isub, 1) := by decide +kernel
theorem dX4_digits_81 : decode cX4_digits 81 = .ok (.putfield 47, 3) := by decide +kernel
theorem dX4_digits_84 : decode cX4_digits 84 = .ok (.aload_n 0, 1) := by decide +kernel
theorem dX4_digits_85 : decode cX4_digits 85 = .ok (.dup, 1) := by decide +kernel
theorem dX4_digits_86 : decode cX4_digits 86 = .ok (.getfield 31, 3) := by decide +kernel
theorem dX4_digits_89 : decode cX4_digits 89 = .ok (.iconst 1, 1) := by decide +kernel
theorem dX4_digits_90 : decode cX4_digits 90 = .ok (.iadd, 1) := by decide +kernel
theorem dX4_digits_91 : decode cX4_digits 91 = .ok (.putfield 31, 3) := by decide +kernel
theorem dX4_digits_94 : decode cX4_digits 94 = .ok (.goto (-89), 3) := by decide +kernel
theorem dX4_digits_97 : decode cX4_digits 97 = .ok (.aload_n 0, 1) := by decide +kernel
theorem dX4_digits_98 : decode cX4_digits 98 = .ok (.getfield 11, 3) := by decide +kernel
theorem dX4_digits_101 : decode cX4_digits 101 = .ok (.aload_n 0, 1) := by decide +kernel
theorem dX4_digits_102 : decode cX4_digits 102 = .ok (.getfield 44, 3) := by decide +kernel
theorem dX4_digits_105 : decode cX4_digits 105 = .ok (.iaload, 1) := by decide +kernel
theorem dX4_digits_106 : decode cX4_digits 106 = .ok (.bipush 48, 2) := by decide +kernel
theorem dX4_digits_108 : decode cX4_digits 108 = .ok (.if_icmp .ne 20, 3) := by decide +kernel
theorem dX4_digits_111 : decode cX4_digits 111 = .ok (.aload_n 0, 1) := by decide +kernel
theorem dX4_digits_112 : decode cX4_digits 112 = .ok (.getfield 31, 3) := by decide +kernel
theorem dX4_digits_115 : decode cX4_digits 115 = .ok (.aload_n 0, 1) := by decide +kernel
theorem dX4_digits_116 : decode cX4_digits 116 = .ok (.getfield 44, 3) := by decide +kernel
theorem dX4_digits_119 : decode cX4_digits 119 = .ok (.isub, 1) := by decide +kernel
theorem dX4_digits_120 : decode cX4_digits 120 = .ok (.iconst 1, 1) := by decide +kernel
theorem dX4_digits_121 : decode cX4_digits 121 = .ok (.if_icmp .le 7, 3) := by decide +kernel
theorem dX4_digits_124 : decode cX4_digits 124 = .ok (.iconst 1, 1) := by decide +kernel
theorem dX4_digits_125 : decode cX4_digits 125 = .ok (.goto 4, 3) := by decide +kernel
theorem dX4_digits_128 : decode cX4_digits 128 = .ok (.iconst 0, 1) := by decide +kernel
theorem dX4_digits_129 : decode cX4_digits 129 = .ok (.istore_n 1, 1) := by decide +kernel
theorem dX4_digits_130 : decode cX4_digits 130 = .ok (.aload_n 0, 1) := by decide +kernel
theorem dX4_digits_131 : decode cX4_digits 131 = .ok (.aload_n 0, 1) := by decide +kernel
theorem dX4_digits_132 : decode cX4_digits 132 = .ok (.getfield 47, 3) := by decide +kernel
theorem dX4_digits_135 : decode cX4_digits 135 = .ok (.bipush 99, 2) := by decide +kernel
theorem dX4_digits_137 : decode cX4_digits 137 = .ok (.if_icmp .gt 7, 3) := by decide +kernel
theorem dX4_digits_140 : decode cX4_digits 140 = .ok (.iload_n 1, 1) := by decide +kernel
theorem dX4_digits_141 : decode cX4_digits 141 = .ok (.ifCond .eq 7, 3) := by decide +kernel
theorem dX4_digits_144 : decode cX4_digits 144 = .ok (.iconst 4, 1) := by decide +kernel
theorem dX4_digits_145 : decode cX4_digits 145 = .ok (.goto 4, 3) := by decide +kernel
theorem dX4_digits_148 : decode cX4_digits 148 = .ok (.iconst 2, 1) := by decide +kernel
theorem dX4_digits_149 : decode cX4_digits 149 = .ok (.putfield 37, 3) := by decide +kernel
theorem dX4_digits_152 : decode cX4_digits 152 = .ok (.return_, 1) := by decide +kernel
theorem dX5_init_0 : decode cX5_init 0 = .ok (.aload_n 0, 1) := by decide +kernel
theorem dX5_init_1 : decode cX5_init 1 = .ok (.invokespecial 3, 3) := by decide +kernel
theorem dX5_init_4 : decode cX5_init 4 = .ok (.aload_n 0, 1) := by decide +kernel
theorem dX5_init_5 : decode cX5_init 5 = .ok (.new 9, 3) := by decide +kernel
theorem dX5_init_8 : decode cX5_init 8 = .ok (.dup, 1) := by decide +kernel
theorem dX5_init_9 : decode cX5_init 9 = .ok (.invokespecial 11, 3) := by decide +kernel
theorem dX5_init_12 : decode cX5_init 12 = .ok (.putfield 12, 3) := by decide +kernel
theorem dX5_init_15 : decode cX5_init 15 = .ok (.aload_n 0, 1) := by decide +kernel
theorem dX5_init_16 : decode cX5_init 16 = .ok (.new 18, 3) := by decide +kernel
theorem dX5_init_19 : decode cX5_init 19 = .ok (.dup, 1) := by decide +kernel
theorem dX5_init_20 : decode cX5_init 20 = .ok (.invokespecial 20, 3) := by decide +kernel
theorem dX5_init_23 : decode cX5_init 23 = .ok (.putfield 21, 3) := by decide +kernel
theorem dX5_init_26 : decode cX5_init 26 = .ok (.return_, 1) := by decide +kernel
theorem dX5_paneAt_0 : decode cX5_paneAt 0 = .ok (.iload_n 1, 1) := by decide +kernel
theorem dX5_paneAt_1 : decode cX5_paneAt 1 = .ok (.ifCond .lt 33, 3) := by decide +kernel
theorem dX5_paneAt_4 : decode cX5_paneAt 4 = .ok (.iload_n 1, 1) := by decide +kernel
theorem dX5_paneAt_5 : decode cX5_paneAt 5 = .ok (.aload_n 0, 1) := by decide +kernel
theorem dX5_paneAt_6 : decode cX5_paneAt 6 = .ok (.getfield 21, 3) := by decide +kernel
theorem dX5_paneAt_9 : decode cX5_paneAt 9 = .ok (.getfield 25, 3) := by decide +kernel
theorem dX5_paneAt_12 : decode cX5_paneAt 12 = .ok (.if_icmp .ge 22, 3) := by decide +kernel
theorem dX5_paneAt_15 : decode cX5_paneAt 15 = .ok (.iload_n 2, 1) := by decide +kernel
theorem dX5_paneAt_16 : decode cX5_paneAt 16 = .ok (.ifCond .lt 18, 3) := by decide +kernel
theorem dX5_paneAt_19 : decode cX5_paneAt 19 = .ok (.iload_n 2, 1) := by decide +kernel
theorem dX5_paneAt_20 : decode cX5_paneAt 20 = .ok (.aload_n 0, 1) := by decide +kernel
theorem dX5_paneAt_21 : decode cX5_paneAt 21 = .ok (.getfield 21, 3) := by decide +kernel
theorem dX5_paneAt_24 : decode cX5_paneAt 24 = .ok (.getfield 29, 3) := by decide +kernel
theorem dX5_paneAt_27 : decode cX5_paneAt 27 = .ok (.if_icmp .ge 7, 3) := by decide +kernel
theorem dX5_paneAt_30 : decode cX5_paneAt 30 = .ok (.iconst 1, 1) := by decide +kernel
theorem dX5_paneAt_31 : decode cX5_paneAt 31 = .ok (.goto 4, 3) := by decide +kernel
theorem dX5_paneAt_34 : decode cX5_paneAt 34 = .ok (.iconst 0, 1) := by decide +kernel
theorem dX5_paneAt_35 : decode cX5_paneAt 35 = .ok (.istore_n 3, 1) := by decide +kernel
theorem dX5_paneAt_36 : decode cX5_paneAt 36 = .ok (.iload_n 3, 1) := by decide +kernel
theorem dX5_paneAt_37 : decode cX5_paneAt 37 = .ok (.ifCond .eq 11, 3) := by decide +kernel
theorem dX5_paneAt_40 : decode cX5_paneAt 40 = .ok (.iconst 4, 1) := by decide +kernel
theorem dX5_paneAt_41 : decode cX5_paneAt 41 = .ok (.iload_n 1, 1) := by decide +kernel
theorem dX5_paneAt_42 : decode cX5_paneAt 42 = .ok (.imul, 1) := by decide +kernel
theorem dX5_paneAt_43 : decode cX5_paneAt 43 = .ok (.iload_n 2, 1) := by decide +kernel
theorem dX5_paneAt_44 : decode cX5_paneAt 44 = .ok (.iadd, 1) := by decide +kernel
theorem dX5_paneAt_45 : decode cX5_paneAt 45 = .ok (.goto 4, 3) := by decide +kernel
theorem dX5_paneAt_48 : decode cX5_paneAt 48 = .ok (.iconst (-1), 1) := by decide +kernel
theorem dX5_paneAt_49 : decode cX5_paneAt 49 = .ok (.ireturn, 1) := by decide +kernel
theorem dX5_hasPane_0 : decode cX5_hasPane 0 = .ok (.aload_n 0, 1) := by decide +kernel
theorem dX5_hasPane_1 : decode cX5_hasPane 1 = .ok (.iload_n 1, 1) := by decide +kernel
theorem dX5_hasPane_2 : decode cX5_hasPane 2 = .ok (.iconst 4, 1) := by decide +kernel
theorem dX5_hasPane_3 : decode cX5_hasPane 3 = .ok (.idiv, 1) := by decide +kernel
theorem dX5_hasPane_4 : decode cX5_hasPane 4 = .ok (.iload_n 1, 1) := by decide +kernel
theorem dX5_hasPane_5 : decode cX5_hasPane 5 = .ok (.iconst 4, 1) := by decide +kernel
theorem dX5_hasPane_6 : decode cX5_hasPane 6 = .ok (.irem, 1) := by decide +kernel
theorem dX5_hasPane_7 : decode cX5_hasPane 7 = .ok (.invokevirtual 32, 3) := by decide +kernel
theorem dX5_hasPane_10 : decode cX5_hasPane 10 = .ok (.iconst (-1), 1) := by decide +kernel
theorem dX5_hasPane_11 : decode cX5_hasPane 11 = .ok (.if_icmp .eq 7, 3) := by decide +kernel
theorem dX5_hasPane_14 : decode cX5_hasPane 14 = .ok (.iconst 1, 1) := by decide +kernel
theorem dX5_hasPane_15 : decode cX5_hasPane 15 = .ok (.goto 4, 3) := by decide +kernel
theorem dX5_hasPane_18 : decode cX5_hasPane 18 = .ok (.iconst 0, 1) := by decide +kernel
theorem dX5_hasPane_19 : decode cX5_hasPane 19 = .ok (.ireturn, 1) := by decide +kernel
theorem dX5_isBroken_0 : decode cX5_isBroken 0 = .ok (.aload_n 0, 1) := by decide +kernel
theorem dX5_isBroken_1 : decode cX5_isBroken 1 = .ok (.getfield 12, 3) := by decide +kernel
theorem dX5_isBroken_4 : decode cX5_isBroken 4 = .ok (.getfield 36, 3) := by decide +kernel
theorem dX5_isBroken_7 : decode cX5_isBroken 7 = .ok (.getfield 40, 3) := by decide +kernel
theorem dX5_isBroken_10 : decode cX5_isBroken 10 = .ok (.iload_n 1, 1) := by decide +kernel
theorem dX5_isBroken_11 : decode cX5_isBroken 11 = .ok (.ishr, 1) := by decide +kernel
theorem dX5_isBroken_12 : decode cX5_isBroken 12 = .ok (.iconst 1, 1) := by decide +kernel
theorem dX5_isBroken_13 : decode cX5_isBroken 13 = .ok (.iand, 1) := by decide +kernel
theorem dX5_isBroken_14 : decode cX5_isBroken 14 = .ok (.ifCond .eq 7, 3) := by decide +kernel
theorem dX5_isBroken_17 : decode cX5_isBroken 17 = .ok (.iconst 1, 1) := by decide +kernel
theorem dX5_isBroken_18 : decode cX5_isBroken 18 = .ok (.goto 4, 3) := by decide +kernel
theorem dX5_isBroken_21 : decode cX5_isBroken 21 = .ok (.iconst 0, 1) := by decide +kernel
theorem dX5_isBroken_22 : decode cX5_isBroken 22 = .ok (.ireturn, 1) := by decide +kernel
theorem dX5_colourNow_0 : decode cX5_colourNow 0 = .ok (.aload_n 0, 1) := by decide +kernel
theorem dX5_colourNow_1 : decode cX5_colourNow 1 = .ok (.iload_n 1, 1) := by decide +kernel
theorem dX5_colourNow_2 : decode cX5_colourNow 2 = .ok (.invokevirtual 45, 3) := by decide +kernel
theorem dX5_colourNow_5 : decode cX5_colourNow 5 = .ok (.ifCond .eq 8, 3) := by decide +kernel
theorem dX5_colourNow_8 : decode cX5_colourNow 8 = .ok (.bipush 7, 2) := by decide +kernel
theorem dX5_colourNow_10 : decode cX5_colourNow 10 = .ok (.goto 12, 3) := by decide +kernel
theorem dX5_colourNow_13 : decode cX5_colourNow 13 = .ok (.aload_n 0, 1) := by decide +kernel
theorem dX5_colourNow_14 : decode cX5_colourNow 14 = .ok (.getfield 21, 3) := by decide +kernel
theorem dX5_colourNow_17 : decode cX5_colourNow 17 = .ok (.getfield 49, 3) := by decide +kernel
theorem dX5_colourNow_20 : decode cX5_colourNow 20 = .ok (.iload_n 1, 1) := by decide +kernel
theorem dX5_colourNow_21 : decode cX5_colourNow 21 = .ok (.iaload, 1) := by decide +kernel
theorem dX5_colourNow_22 : decode cX5_colourNow 22 = .ok (.ireturn, 1) := by decide +kernel
theorem dX5_letsThrough_0 : decode cX5_letsThrough 0 = .ok (.iload_n 1, 1) := by decide +kernel
theorem dX5_letsThrough_1 : decode cX5_letsThrough 1 = .ok (.iconst (-1), 1) := by decide +kernel
theorem dX5_letsThrough_2 : decode cX5_letsThrough 2 = .ok (.if_icmp .ne 7, 3) := by decide +kernel
theorem dX5_letsThrough_5 : decode cX5_letsThrough 5 = .ok (.iconst 0, 1) := by decide +kernel
theorem dX5_letsThrough_6 : decode cX5_letsThrough 6 = .ok (.goto 29, 3) := by decide +kernel
theorem dX5_letsThrough_9 : decode cX5_letsThrough 9 = .ok (.aload_n 0, 1) := by decide +kernel
theorem dX5_letsThrough_10 : decode cX5_letsThrough 10 = .ok (.iload_n 1, 1) := by decide +kernel
theorem dX5_letsThrough_11 : decode cX5_letsThrough 11 = .ok (.invokevirtual 53, 3) := by decide +kernel
theorem dX5_letsThrough_14 : decode cX5_letsThrough 14 = .ok (.aload_n 0, 1) := by decide +kernel
theorem dX5_letsThrough_15 : decode cX5_letsThrough 15 = .ok (.getfield 21, 3) := by decide +kernel
theorem dX5_letsThrough_18 : decode cX5_letsThrough 18 = .ok (.getfield 57, 3) := by decide +kernel
theorem dX5_letsThrough_21 : decode cX5_letsThrough 21 = .ok (.aload_n 0, 1) := by decide +kernel
theorem dX5_letsThrough_22 : decode cX5_letsThrough 22 = .ok (.getfield 12, 3) := by decide +kernel
theorem dX5_letsThrough_25 : decode cX5_letsThrough 25 = .ok (.getfield 36, 3) := by decide +kernel
theorem dX5_letsThrough_28 : decode cX5_letsThrough 28 = .ok (.getfield 60, 3) := by decide +kernel
theorem dX5_letsThrough_31 : decode cX5_letsThrough 31 = .ok (.iload_n 1, 1) := by decide +kernel
theorem dX5_letsThrough_32 : decode cX5_letsThrough 32 = .ok (.iaload, 1) := by decide +kernel
theorem dX5_letsThrough_33 : decode cX5_letsThrough 33 = .ok (.iaload, 1) := by decide +kernel
theorem dX5_letsThrough_34 : decode cX5_letsThrough 34 = .ok (.iand, 1) := by decide +kernel
theorem dX5_letsThrough_35 : decode cX5_letsThrough 35 = .ok (.ireturn, 1) := by decide +kernel
theorem dX5_paneBehind_0 : decode cX5_paneBehind 0 = .ok (.iconst 0, 1) := by decide +kernel
theorem dX5_paneBehind_1 : decode cX5_paneBehind 1 = .ok (.istore_n 2, 1) := by decide +kernel
theorem dX5_paneBehind_2 : decode cX5_paneBehind 2 = .ok (.iload_n 2, 1) := by decide +kernel
theorem dX5_paneBehind_3 : decode cX5_paneBehind 3 = .ok (.bipush 20, 2) := by decide +kernel
theorem dX5_paneBehind_5 : decode cX5_paneBehind 5 = .ok (.if_icmp .ge 30, 3) := by decide +kernel
theorem dX5_paneBehind_8 : decode cX5_paneBehind 8 = .ok (.aload_n 0, 1) := by decide +kernel
theorem dX5_paneBehind_9 : decode cX5_paneBehind 9 = .ok (.getfield 12, 3) := by decide +kernel
theorem dX5_paneBehind_12 : decode cX5_paneBehind 12 = .ok (.getfield 36, 3) := by decide +kernel
theorem dX5_paneBehind_15 : decode cX5_paneBehind 15 = .ok (.getfield 60, 3) := by decide +kernel
theorem dX5_paneBehind_18 : decode cX5_paneBehind 18 = .ok (.iload_n 2, 1) := by decide +kernel
theorem dX5_paneBehind_19 : decode cX5_paneBehind 19 = .ok (.iaload, 1) := by decide +kernel
theorem dX5_paneBehind_20 : decode cX5_paneBehind 20 = .ok (.iload_n 1, 1) := by decide +kernel
theorem dX5_paneBehind_21 : decode cX5_paneBehind 21 = .ok (.ishr, 1) := by decide +kernel
theorem dX5_paneBehind_22 : decode cX5_paneBehind 22 = .ok (.iconst 1, 1) := by decide +kernel
theorem dX5_paneBehind_23 : decode cX5_paneBehind 23 = .ok (.iand, 1) := by decide +kernel
theorem dX5_paneBehind_24 : decode cX5_paneBehind 24 = .ok (.ifCond .eq 5, 3) := by decide +kernel
theorem dX5_paneBehind_27 : decode cX5_paneBehind 27 = .ok (.iload_n 2, 1) := by decide +kernel
theorem dX5_paneBehind_28 : decode cX5_paneBehind 28 = .ok (.ireturn, 1) := by decide +kernel
theorem dX5_paneBehind_29 : decode cX5_paneBehind 29 = .ok (.iinc 2 1, 3) := by decide +kernel
theorem dX5_paneBehind_32 : decode cX5_paneBehind 32 = .ok (.goto (-30), 3) := by decide +kernel
theorem dX5_paneBehind_35 : decode cX5_paneBehind 35 = .ok (.bipush (-9), 2) := by decide +kernel
theorem dX5_paneBehind_37 : decode cX5_paneBehind 37 = .ok (.ireturn, 1) := by decide +kernel
theorem dX5_box_0 : decode cX5_box 0 = .ok (.iconst 0, 1) := by decide +kernel
theorem dX5_box_1 : decode cX5_box 1 = .ok (.istore_n 1, 1) := by decide +kernel
theorem dX5_box_2 : decode cX5_box 2 = .ok (.iconst 0, 1) := by decide +kernel
theorem dX5_box_3 : decode cX5_box 3 = .ok (.istore_n 2, 1) := by decide +kernel
theorem dX5_box_4 : decode cX5_box 4 = .ok (.iload_n 2, 1) := by decide +kernel
theorem dX5_box_5 : decode cX5_box 5 = .ok (.bipush 20, 2) := by decide +kernel
theorem dX5_box_7 : decode cX5_box 7 = .ok (.if_icmp .ge 24, 3) := by decide +kernel
theorem dX5_box_10 : decode cX5_box 10 = .ok (.iload_n 1, 1) := by decide +kernel
theorem dX5_box_11 : decode cX5_box 11 = .ok (.aload_n 0, 1) := by decide +kernel
theorem dX5_box_12 : decode cX5_box 12 = .ok (.getfield 12, 3) := by decide +kernel
theorem dX5_box_15 : decode cX5_box 15 = .ok (.getfield 36, 3) := by decide +kernel
theorem dX5_box_18 : decode cX5_box 18 = .ok (.getfield 60, 3) := by decide +kernel
theorem dX5_box_21 : decode cX5_box 21 = .ok (.iload_n 2, 1) := by decide +kernel
theorem dX5_box_22 : decode cX5_box 22 = .ok (.iaload, 1) := by decide +kernel
theorem dX5_box_23 : decode cX5_box 23 = .ok (.ior, 1) := by decide +kernel
theorem dX5_box_24 : decode cX5_box 24 = .ok (.istore_n 1, 1) := by decide +kernel
theorem dX5_box_25 : decode cX5_box 25 = .ok (.iinc 2 1, 3) := by decide +kernel
theorem dX5_box_28 : decode cX5_box 28 = .ok (.goto (-24), 3) := by decide +kernel
theorem dX5_box_31 : decode cX5_box 31 = .ok (.iconst 1, 1) := by decide +kernel
theorem dX5_box_32 : decode cX5_box 32 = .ok (.aload_n 0, 1) := by decide +kernel
theorem dX5_box_33 : decode cX5_box 33 = .ok (.getfield 21, 3) := by decide +kernel
theorem dX5_box_36 : decode cX5_box 36 = .ok (.getfield 63, 3) := by decide +kernel
theorem dX5_box_39 : decode cX5_box 39 = .ok (.ishl, 1) := by decide +kernel
theorem dX5_box_40 : decode cX5_box 40 = .ok (.iconst 1, 1) := by decide +kernel
theorem dX5_box_41 : decode cX5_box 41 = .ok (.isub, 1) := by decide +kernel
theorem dX5_box_42 : decode cX5_box 42 = .ok (.iload_n 1, 1) := by decide +kernel
theorem dX5_box_43 : decode cX5_box 43 = .ok (.iconst (-1), 1) := by decide +kernel
theorem dX5_box_44 : decode cX5_box 44 = .ok (.ixor, 1) := by decide +kernel
theorem dX5_box_45 : decode cX5_box 45 = .ok (.iand, 1) := by decide +kernel
theorem dX5_box_46 : decode cX5_box 46 = .ok (.ireturn, 1) := by decide +kernel
theorem dX5_roomBefore_0 : decode cX5_roomBefore 0 = .ok (.iload_n 1, 1) := by decide +kernel
theorem dX5_roomBefore_1 : decode cX5_roomBefore 1 = .ok (.iconst (-1), 1) := by decide +kernel
theorem dX5_roomBefore_2 : decode cX5_roomBefore 2 = .ok (.if_icmp .eq 11, 3) := by decide +kernel
theorem dX5_roomBefore_5 : decode cX5_roomBefore 5 = .ok (.aload_n 0, 1) := by decide +kernel
theorem dX5_roomBefore_6 : decode cX5_roomBefore 6 = .ok (.iload_n 1, 1) := by decide +kernel
theorem dX5_roomBefore_7 : decode cX5_roomBefore 7 = .ok (.invokevirtual 45, 3) := by decide +kernel
theorem dX5_roomBefore_10 : decode cX5_roomBefore 10 = .ok (.ifCond .eq 5, 3) := by decide +kernel
theorem dX5_roomBefore_13 : decode cX5_roomBefore 13 = .ok (.iconst 0, 1) := by decide +kernel
theorem dX5_roomBefore_14 : decode cX5_roomBefore 14 = .ok (.ireturn, 1) := by decide +kernel
theorem dX5_roomBefore_15 : decode cX5_roomBefore 15 = .ok (.iconst 3, 1) := by decide +kernel
theorem dX5_roomBefore_16 : decode cX5_roomBefore 16 = .ok (.aload_n 0, 1) := by decide +kernel
theorem dX5_roomBefore_17 : decode cX5_roomBefore 17 = .ok (.getfield 12, 3) := by decide +kernel
theorem dX5_roomBefore_20 : decode cX5_roomBefore 20 = .ok (.getfield 36, 3) := by decide +kernel
theorem dX5_roomBefore_23 : decode cX5_roomBefore 23 = .ok (.getfield 60, 3) := by decide +kernel
theorem dX5_roomBefore_26 : decode cX5_roomBefore 26 = .ok (.iload_n 1, 1) := by decide +kernel
theorem dX5_roomBefore_27 : decode cX5_roomBefore 27 = .ok (.iaload, 1) := by decide +kernel
theorem dX5_roomBefore_28 : decode cX5_roomBefore 28 = .ok (.invokestatic 66, 3) := by decide +kernel
theorem dX5_roomBefore_31 : decode cX5_roomBefore 31 = .ok (.isub, 1) := by decide +kernel
theorem dX5_roomBefore_32 : decode cX5_roomBefore 32 = .ok (.ireturn, 1) := by decide +kernel
theorem dX5_lostAtFirstHour_0 : decode cX5_lostAtFirstHour 0 = .ok (.aload_n 0, 1) := by decide +kernel
theorem dX5_lostAtFirstHour_1 : decode cX5_lostAtFirstHour 1 = .ok (.getfield 21, 3) := by decide +kernel
theorem dX5_lostAtFirstHour_4 : decode cX5_lostAtFirstHour 4 = .ok (.getfield 29, 3) := by decide +kernel
theorem dX5_lostAtFirstHour_7 : decode cX5_lostAtFirstHour 7 = .ok (.iconst 0, 1) := by decide +kernel
theorem dX5_lostAtFirstHour_8 : decode cX5_lostAtFirstHour 8 = .ok (.aload_n 0, 1) := by decide +kernel
theorem dX5_lostAtFirstHour_9 : decode cX5_lostAtFirstHour 9 = .ok (.getfield 21, 3) := by decide +kernel
theorem dX5_lostAtFirstHour_12 : decode cX5_lostAtFirstHour 12 = .ok (.getfield 25, 3) := by decide +kernel
theorem dX5_lostAtFirstHour_15 : decode cX5_lostAtFirstHour 15 = .ok (.iconst 2, 1) := by decide +kernel
theorem dX5_lostAtFirstHour_16 : decode cX5_lostAtFirstHour 16 = .ok (.aload_n 0, 1) := by decide +kernel
theorem dX5_lostAtFirstHour_17 : decode cX5_lostAtFirstHour 17 = .ok (.getfield 12, 3) := by decide +kernel
theorem dX5_lostAtFirstHour_20 : decode cX5_lostAtFirstHour 20 = .ok (.getfield 36, 3) := by decide +kernel
theorem dX5_lostAtFirstHour_23 : decode cX5_lostAtFirstHour 23 = .ok (.getfield 71, 3) := by decide +kernel
theorem dX5_lostAtFirstHour_26 : decode cX5_lostAtFirstHour 26 = .ok (.imul, 1) := by decide +kernel
theorem dX5_lostAtFirstHour_27 : decode cX5_lostAtFirstHour 27 = .ok (.isub, 1) := by decide +kernel
theorem dX5_lostAtFirstHour_28 : decode cX5_lostAtFirstHour 28 = .ok (.invokestatic 74, 3) := by decide +kernel
theorem dX5_lostAtFirstHour_31 : decode cX5_lostAtFirstHour 31 = .ok (.imul, 1) := by decide +kernel
theorem dX5_lostAtFirstHour_32 : decode cX5_lostAtFirstHour 32 = .ok (.ireturn, 1) := by decide +kernel
theorem dX5_paneByItself_0 : decode cX5_paneByItself 0 = .ok (.iload_n 1, 1) := by decide +kernel
theorem dX5_paneByItself_1 : decode cX5_paneByItself 1 = .ok (.bipush 7, 2) := by decide +kernel
theorem dX5_paneByItself_3 : decode cX5_paneByItself 3 = .ok (.idiv, 1) := by decide +kernel
theorem dX5_paneByItself_4 : decode cX5_paneByItself 4 = .ok (.istore_n 3, 1) := by decide +kernel
theorem dX5_paneByItself_5 : decode cX5_paneByItself 5 = .ok (.iload_n 3, 1) := by decide +kernel
theorem dX5_paneByItself_6 : decode cX5_paneByItself 6 = .ok (.aload_n 0, 1) := by decide +kernel
theorem dX5_paneByItself_7 : decode cX5_paneByItself 7 = .ok (.getfield 12, 3) := by decide +kernel
theorem dX5_paneByItself_10 : decode cX5_paneByItself 10 = .ok (.getfield 36, 3) := by decide +kernel
theorem dX5_paneByItself_13 : decode cX5_paneByItself 13 = .ok (.getfield 71, 3) := by decide +kernel
theorem dX5_paneByItself_16 : decode cX5_paneByItself 16 = .ok (.if_icmp .lt 5, 3) := by decide +kernel
theorem dX5_paneByItself_19 : decode cX5_paneByItself 19 = .ok (.iconst (-1), 1) := by decide +kernel
theorem dX5_paneByItself_20 : decode cX5_paneByItself 20 = .ok (.ireturn, 1) := by decide +kernel
theorem dX5_paneByItself_21 : decode cX5_paneByItself 21 = .ok (.aload_n 0, 1) := by decide +kernel
theorem dX5_paneByItself_22 : decode cX5_paneByItself 22 = .ok (.iload_n 3, 1) := by decide +kernel
theorem dX5_paneByItself_23 : decode cX5_paneByItself 23 = .ok (.iload_n 2, 1) := by decide +kernel
theorem dX5_paneByItself_24 : decode cX5_paneByItself 24 = .ok (.isub, 1) := by decide +kernel
theorem dX5_paneByItself_25 : decode cX5_paneByItself 25 = .ok (.iload_n 1, 1) := by decide +kernel
theorem dX5_paneByItself_26 : decode cX5_paneByItself 26 = .ok (.bipush 7, 2) := by decide +kernel
theorem dX5_paneByItself_28 : decode cX5_paneByItself 28 = .ok (.irem, 1) := by decide +kernel
theorem dX5_paneByItself_29 : decode cX5_paneByItself 29 = .ok (.aload_n 0, 1) := by decide +kernel
theorem dX5_paneByItself_30 : decode cX5_paneByItself 30 = .ok (.getfield 12, 3) := by decide +kernel
theorem dX5_paneByItself_33 : decode cX5_paneByItself 33 = .ok (.getfield 36, 3) := by decide +kernel
theorem dX5_paneByItself_36 : decode cX5_paneByItself 36 = .ok (.getfield 79, 3) := by decide +kernel
theorem dX5_paneByItself_39 : decode cX5_paneByItself 39 = .ok (.isub, 1) := by decide +kernel
theorem dX5_paneByItself_40 : decode cX5_paneByItself 40 = .ok (.invokevirtual 32, 3) := by decide +kernel
theorem dX5_paneByItself_43 : decode cX5_paneByItself 43 = .ok (.ireturn, 1) := by decide +kernel
theorem dX5_paneByMirror_0 : decode cX5_paneByMirror 0 = .ok (.iload_n 1, 1) := by decide +kernel
theorem dX5_paneByMirror_1 : decode cX5_paneByMirror 1 = .ok (.bipush 7, 2) := by decide +kernel
theorem dX5_paneByMirror_3 : decode cX5_paneByMirror 3 = .ok (.idiv, 1) := by decide +kernel
theorem dX5_paneByMirror_4 : decode cX5_paneByMirror 4 = .ok (.istore_n 3, 1) := by decide +kernel
theorem dX5_paneByMirror_5 : decode cX5_paneByMirror 5 = .ok (.iload_n 3, 1) := by decide +kernel
theorem dX5_paneByMirror_6 : decode cX5_paneByMirror 6 = .ok (.aload_n 0, 1) := by decide +kernel
theorem dX5_paneByMirror_7 : decode cX5_paneByMirror 7 = .ok (.getfield 12, 3) := by decide +kernel
theorem dX5_paneByMirror_10 : decode cX5_paneByMirror 10 = .ok (.getfield 36, 3) := by decide +kernel
theorem dX5_paneByMirror_13 : decode cX5_paneByMirror 13 = .ok (.getfield 71, 3) := by decide +kernel
theorem dX5_paneByMirror_16 : decode cX5_paneByMirror 16 = .ok (.if_icmp .lt 5, 3) := by decide +kernel
theorem dX5_paneByMirror_19 : decode cX5_paneByMirror 19 = .ok (.iconst (-1), 1) := by decide +kernel
theorem dX5_paneByMirror_20 : decode cX5_paneByMirror 20 = .ok (.ireturn, 1) := by decide +kernel
theorem dX5_paneByMirror_21 : decode cX5_paneByMirror 21 = .ok (.iconst 2, 1) := by decide +kernel
theorem dX5_paneByMirror_22 : decode cX5_paneByMirror 22 = .ok (.aload_n 0, 1) := by decide +kernel
theorem dX5_paneByMirror_23 : decode cX5_paneByMirror 23 = .ok (.getfield 12, 3) := by decide +kernel
theorem dX5_paneByMirror_26 : decode cX5_paneByMirror 26 = .ok (.getfield 36, 3) := by decide +kernel
theorem dX5_paneByMirror_29 : decode cX5_paneByMirror 29 = .ok (.getfield 71, 3) := by decide +kernel
theorem dX5_paneByMirror_32 : decode cX5_paneByMirror 32 = .ok (.imul, 1) := by decide +kernel
theorem dX5_paneByMirror_33 : decode cX5_paneByMirror 33 = .ok (.iconst 1, 1) := by decide +kernel
theorem dX5_paneByMirror_34 : decode cX5_paneByMirror 34 = .ok (.isub, 1) := by decide +kernel
theorem dX5_paneByMirror_35 : decode cX5_paneByMirror 35 = .ok (.iload_n 3, 1) := by decide +kernel
theorem dX5_paneByMirror_36 : decode cX5_paneByMirror 36 = .ok (.isub, 1) := by decide +kernel
theorem dX5_paneByMirror_37 : decode cX5_paneByMirror 37 = .ok (.istore 4, 2) := by decide +kernel
theorem dX5_paneByMirror_39 : decode cX5_paneByMirror 39 = .ok (.aload_n 0, 1) := by decide +kernel
theorem dX5_paneByMirror_40 : decode cX5_paneByMirror 40 = .ok (.iload 4, 2) := by decide +kernel
theorem dX5_paneByMirror_42 : decode cX5_paneByMirror 42 = .ok (.iload_n 2, 1) := by decide +kernel
theorem dX5_paneByMirror_43 : decode cX5_paneByMirror 43 = .ok (.isub, 1) := by decide +kernel
theorem dX5_paneByMirror_44 : decode cX5_paneByMirror 44 = .ok (.iload_n 1, 1) := by decide +kernel
theorem dX5_paneByMirror_45 : decode cX5_paneByMirror 45 = .ok (.bipush 7, 2) := by decide +kernel
theorem dX5_paneByMirror_47 : decode cX5_paneByMirror 47 = .ok (.irem, 1) := by decide +kernel
theorem dX5_paneByMirror_48 : decode cX5_paneByMirror 48 = .ok (.aload_n 0, 1) := by decide +kernel
theorem dX5_paneByMirror_49 : decode cX5_paneByMirror 49 = .ok (.getfield 12, 3) := by decide +kernel
theorem dX5_paneByMirror_52 : decode cX5_paneByMirror 52 = .ok (.getfield 36, 3) := by decide +kernel
theorem dX5_paneByMirror_55 : decode cX5_paneByMirror 55 = .ok (.getfield 79, 3) := by decide +kernel
theorem dX5_paneByMirror_58 : decode cX5_paneByMirror 58 = .ok (.isub, 1) := by decide +kernel
theorem dX5_paneByMirror_59 : decode cX5_paneByMirror 59 = .ok (.invokevirtual 32, 3) := by decide +kernel
theorem dX5_paneByMirror_62 : decode cX5_paneByMirror 62 = .ok (.ireturn, 1) := by decide +kernel
theorem dX5_lightOf_0 : decode cX5_lightOf 0 = .ok (.aload_n 0, 1) := by decide +kernel
theorem dX5_lightOf_1 : decode cX5_lightOf 1 = .ok (.aload_n 0, 1) := by decide +kernel
theorem dX5_lightOf_2 : decode cX5_lightOf 2 = .ok (.iload_n 1, 1) := by decide +kernel
theorem dX5_lightOf_3 : decode cX5_lightOf 3 = .ok (.iload_n 2, 1) := by decide +kernel
theorem dX5_lightOf_4 : decode cX5_lightOf 4 = .ok (.invokevirtual 82, 3) := by decide +kernel
theorem dX5_lightOf_7 : decode cX5_lightOf 7 = .ok (.invokevirtual 85, 3) := by decide +kernel
theorem dX5_lightOf_10 : decode cX5_lightOf 10 = .ok (.aload_n 0, 1) := by decide +kernel
theorem dX5_lightOf_11 : decode cX5_lightOf 11 = .ok (.aload_n 0, 1) := by decide +kernel
theorem dX5_lightOf_12 : decode cX5_lightOf 12 = .ok (.iload_n 1, 1) := by decide +kernel
theorem dX5_lightOf_13 : decode cX5_lightOf 13 = .ok (.iload_n 2, 1) := by decide +kernel
theorem dX5_lightOf_14 : decode cX5_lightOf 14 = .ok (.invokevirtual 88, 3) := by decide +kernel
theorem dX5_lightOf_17 : decode cX5_lightOf 17 = .ok (.invokevirtual 85, 3) := by decide +kernel
theorem dX5_lightOf_20 : decode cX5_lightOf 20 = .ok (.ior, 1) := by decide +kernel
theorem dX5_lightOf_21 : decode cX5_lightOf 21 = .ok (.ireturn, 1) := by decide +kernel
theorem dX5_lightIf_0 : decode cX5_lightIf 0 = .ok (.aload_n 0, 1) := by decide +kernel
theorem dX5_lightIf_1 : decode cX5_lightIf 1 = .ok (.iload_n 1, 1) := by decide +kernel
theorem dX5_lightIf_2 : decode cX5_lightIf 2 = .ok (.iload_n 2, 1) := by decide +kernel
theorem dX5_lightIf_3 : decode cX5_lightIf 3 = .ok (.invokevirtual 82, 3) := by decide +kernel
theorem dX5_lightIf_6 : decode cX5_lightIf 6 = .ok (.istore 5, 2) := by decide +kernel
theorem dX5_lightIf_8 : decode cX5_lightIf 8 = .ok (.aload_n 0, 1) := by decide +kernel
theorem dX5_lightIf_9 : decode cX5_lightIf 9 = .ok (.iload_n 1, 1) := by decide +kernel
theorem dX5_lightIf_10 : decode cX5_lightIf 10 = .ok (.iload_n 2, 1) := by decide +kernel
theorem dX5_lightIf_11 : decode cX5_lightIf 11 = .ok (.invokevirtual 88, 3) := by decide +kernel
theorem dX5_lightIf_14 : decode cX5_lightIf 14 = .ok (.istore 6, 2) := by decide +kernel
theorem dX5_lightIf_16 : decode cX5_lightIf 16 = .ok (.iload 5, 2) := by decide +kernel
theorem dX5_lightIf_18 : decode cX5_lightIf 18 = .ok (.iload_n 3, 1) := by decide +kernel
theorem dX5_lightIf_19 : decode cX5_lightIf 19 = .ok (.if_icmp .ne 8, 3) := by decide +kernel
theorem dX5_lightIf_22 : decode cX5_lightIf 22 = .ok (.iload 4, 2) := by decide +kernel
theorem dX5_lightIf_24 : decode cX5_lightIf 24 = .ok (.goto 9, 3) := by decide +kernel
theorem dX5_lightIf_27 : decode cX5_lightIf 27 = .ok (.aload_n 0, 1) := by decide +kernel
theorem dX5_lightIf_28 : decode cX5_lightIf 28 = .ok (.iload 5, 2) := by decide +kernel
theorem dX5_lightIf_30 : decode cX5_lightIf 30 = .ok (.invokevirtual 85, 3) := by decide +kernel
theorem dX5_lightIf_33 : decode cX5_lightIf 33 = .ok (.iload 6, 2) := by decide +kernel
theorem dX5_lightIf_35 : decode cX5_lightIf 35 = .ok (.iload_n 3, 1) := by decide +kernel
theorem dX5_lightIf_36 : decode cX5_lightIf 36 = .ok (.if_icmp .ne 8, 3) := by decide +kernel
theorem dX5_lightIf_39 : decode cX5_lightIf 39 = .ok (.iload 4, 2) := by decide +kernel
theorem dX5_lightIf_41 : decode cX5_lightIf 41 = .ok (.goto 9, 3) := by decide +kernel
theorem dX5_lightIf_44 : decode cX5_lightIf 44 = .ok (.aload_n 0, 1) := by decide +kernel
theorem dX5_lightIf_45 : decode cX5_lightIf 45 = .ok (.iload 6, 2) := by decide +kernel
theorem dX5_lightIf_47 : decode cX5_lightIf 47 = .ok (.invokevirtual 85, 3) := by decide +kernel
theorem dX5_lightIf_50 : decode cX5_lightIf 50 = .ok (.ior, 1) := by decide +kernel
theorem dX5_lightIf_51 : decode cX5_lightIf 51 = .ok (.ireturn, 1) := by decide +kernel
theorem dX6_init_0 : decode cX6_init 0 = .ok (.aload_n 0, 1) := by decide +kernel
theorem dX6_init_1 : decode cX6_init 1 = .ok (.invokespecial 1, 3) := by decide +kernel
theorem dX6_init_4 : decode cX6_init 4 = .ok (.aload_n 0, 1) := by decide +kernel
theorem dX6_init_5 : decode cX6_init 5 = .ok (.bipush 11, 2) := by decide +kernel
theorem dX6_init_7 : decode cX6_init 7 = .ok (.anewarray 9, 3) := by decide +kernel
theorem dX6_init_10 : decode cX6_init 10 = .ok (.putfield 11, 3) := by decide +kernel
theorem dX6_init_13 : decode cX6_init 13 = .ok (.iconst 0, 1) := by decide +kernel
theorem dX6_init_14 : decode cX6_init 14 = .ok (.istore_n 1, 1) := by decide +kernel
theorem dX6_init_15 : decode cX6_init 15 = .ok (.iload_n 1, 1) := by decide +kernel
theorem dX6_init_16 : decode cX6_init 16 = .ok (.bipush 10, 2) := by decide +kernel
theorem dX6_init_18 : decode cX6_init 18 = .ok (.if_icmp .gt 22, 3) := by decide +kernel
theorem dX6_init_21 : decode cX6_init 21 = .ok (.aload_n 0, 1) := by decide +kernel
theorem dX6_init_22 : decode cX6_init 22 = .ok (.getfield 11, 3) := by decide +kernel
theorem dX6_init_25 : decode cX6_init 25 = .ok (.iload_n 1, 1) := by decide +kernel
theorem dX6_init_26 : decode cX6_init 26 = .ok (.new 9, 3) := by decide +kernel
theorem dX6_init_29 : decode cX6_init 29 = .ok (.dup, 1) := by decide +kernel
theorem dX6_init_30 : decode cX6_init 30 = .ok (.invokespecial 15, 3) := by decide +kernel
theorem dX6_init_33 : decode cX6_init 33 = .ok (.aastore, 1) := by decide +kernel
theorem dX6_init_34 : decode cX6_init 34 = .ok (.iinc 1 1, 3) := by decide +kernel
theorem dX6_init_37 : decode cX6_init 37 = .ok (.goto (-22), 3) := by decide +kernel
theorem dX6_init_40 : decode cX6_init 40 = .ok (.aload_n 0, 1) := by decide +kernel
theorem dX6_init_41 : decode cX6_init 41 = .ok (.aload_n 0, 1) := by decide +kernel
theorem dX6_init_42 : decode cX6_init 42 = .ok (.getfield 11, 3) := by decide +kernel
theorem dX6_init_45 : decode cX6_init 45 = .ok (.iconst 0, 1) := by decide +kernel
theorem dX6_init_46 : decode cX6_init 46 = .ok (.aaload, 1) := by decide +kernel
theorem dX6_init_47 : decode cX6_init 47 = .ok (.putfield 16, 3) := by decide +kernel
theorem dX6_init_50 : decode cX6_init 50 = .ok (.return_, 1) := by decide +kernel
theorem dX6_restart_0 : decode cX6_restart 0 = .ok (.aload_n 0, 1) := by decide +kernel
theorem dX6_restart_1 : decode cX6_restart 1 = .ok (.iconst 0, 1) := by decide +kernel
theorem dX6_restart_2 : decode cX6_restart 2 = .ok (.putfield 20, 3) := by decide +kernel
theorem dX6_restart_5 : decode cX6_restart 5 = .ok (.aload_n 0, 1) := by decide +kernel
theorem dX6_restart_6 : decode cX6_restart 6 = .ok (.aload_n 0, 1) := by decide +kernel
theorem dX6_restart_7 : decode cX6_restart 7 = .ok (.getfield 11, 3) := by decide +kernel
theorem dX6_restart_10 : decode cX6_restart 10 = .ok (.iconst 0, 1) := by decide +kernel
theorem dX6_restart_11 : decode cX6_restart 11 = .ok (.aaload, 1) := by decide +kernel
theorem dX6_restart_12 : decode cX6_restart 12 = .ok (.putfield 16, 3) := by decide +kernel
theorem dX6_restart_15 : decode cX6_restart 15 = .ok (.aload_n 0, 1) := by decide +kernel
theorem dX6_restart_16 : decode cX6_restart 16 = .ok (.getfield 16, 3) := by decide +kernel
theorem dX6_restart_19 : decode cX6_restart 19 = .ok (.getfield 24, 3) := by decide +kernel
theorem dX6_restart_22 : decode cX6_restart 22 = .ok (.iconst 0, 1) := by decide +kernel
theorem dX6_restart_23 : decode cX6_restart 23 = .ok (.invokestatic 28, 3) := by decide +kernel
theorem dX6_restart_26 : decode cX6_restart 26 = .ok (.aload_n 0, 1) := by decide +kernel
theorem dX6_restart_27 : decode cX6_restart 27 = .ok (.getfield 16, 3) := by decide +kernel
theorem dX6_restart_30 : decode cX6_restart 30 = .ok (.iconst 0, 1) := by decide +kernel
theorem dX6_restart_31 : decode cX6_restart 31 = .ok (.putfield 34, 3) := by decide +kernel
theorem dX6_restart_34 : decode cX6_restart 34 = .ok (.aload_n 0, 1) := by decide +kernel
theorem dX6_restart_35 : decode cX6_restart 35 = .ok (.getfield 16, 3) := by decide +kernel
theorem dX6_restart_38 : decode cX6_restart 38 = .ok (.aload_n 1, 1) := by decide +kernel
theorem dX6_restart_39 : decode cX6_restart 39 = .ok (.getfield 37, 3) := by decide +kernel
theorem dX6_restart_42 : decode cX6_restart 42 = .ok (.putfield 42, 3) := by decide +kernel
theorem dX6_restart_45 : decode cX6_restart 45 = .ok (.aload_n 0, 1) := by decide +kernel
theorem dX6_restart_46 : decode cX6_restart 46 = .ok (.getfield 16, 3) := by decide +kernel
theorem dX6_restart_49 : decode cX6_restart 49 = .ok (.aload_n 1, 1) := by decide +kernel
theorem dX6_restart_50 : decode cX6_restart 50 = .ok (.getfield 43, 3) := by decide +kernel
theorem dX6_restart_53 : decode cX6_restart 53 = .ok (.putfield 46, 3) := by decide +kernel
theorem dX6_restart_56 : decode cX6_restart 56 = .ok (.return_, 1) := by decide +kernel
theorem dX6_advance_0 : decode cX6_advance 0 = .ok (.aload_n 0, 1) := by decide +kernel
theorem dX6_advance_1 : decode cX6_advance 1 = .ok (.getfield 20, 3) := by decide +kernel
theorem dX6_advance_4 : decode cX6_advance 4 = .ok (.bipush 10, 2) := by decide +kernel
theorem dX6_advance_6 : decode cX6_advance 6 = .ok (.if_icmp .ge 16, 3) := by decide +kernel
theorem dX6_advance_9 : decode cX6_advance 9 = .ok (.aload_n 0, 1) := by decide +kernel
theorem dX6_advance_10 : decode cX6_advance 10 = .ok (.dup, 1) := by decide +kernel
theorem dX6_advance_11 : decode cX6_advance 11 = .ok (.getfield 20, 3) := by decide +kernel
theorem dX6_advance_14 : decode cX6_advance 14 = .ok (.iconst 1, 1) := by decide +kernel
theorem dX6_advance_15 : decode cX6_advance 15 = .ok (.iadd, 1) := by decide +kernel
theorem dX6_advance_16 : decode cX6_advance 16 = .ok (.putfield 20, 3) := by decide +kernel
theorem dX6_advance_19 : decode cX6_advance 19 = .ok (.goto 7, 3) := by decide +kernel
theorem dX6_advance_22 : decode cX6_advance 22 = .ok (.aload_n 0, 1) := by decide +kernel
theorem dX6_advance_23 : decode cX6_advance 23 = .ok (.invokevirtual 47, 3) := by decide +kernel
theorem dX6_advance_26 : decode cX6_advance 26 = .ok (.aload_n 0, 1) := by decide +kernel
theorem dX6_advance_27 : decode cX6_advance 27 = .ok (.aload_n 0, 1) := by decide +kernel
theorem dX6_advance_28 : decode cX6_advance 28 = .ok (.getfield 11, 3) := by decide +kernel
theorem dX6_advance_31 : decode cX6_advance 31 = .ok (.aload_n 0, 1) := by decide +kernel
theorem dX6_advance_32 : decode cX6_advance 32 = .ok (.getfield 20, 3) := by decide +kernel
theorem dX6_advance_35 : decode cX6_advance 35 = .ok (.aaload, 1) := by decide +kernel
theorem dX6_advance_36 : decode cX6_advance 36 = .ok (.putfield 16, 3) := by decide +kernel
theorem dX6_advance_39 : decode cX6_advance 39 = .ok (.aload_n 0, 1) := by decide +kernel
theorem dX6_advance_40 : decode cX6_advance 40 = .ok (.getfield 16, 3) := by decide +kernel
theorem dX6_advance_43 : decode cX6_advance 43 = .ok (.aload_n 0, 1) := by decide +kernel
theorem dX6_advance_44 : decode cX6_advance 44 = .ok (.getfield 11, 3) := by decide +kernel
theorem dX6_advance_47 : decode cX6_advance 47 = .ok (.aload_n 0, 1) := by decide +kernel
theorem dX6_advance_48 : decode cX6_advance 48 = .ok (.getfield 20, 3) := by decide +kernel
theorem dX6_advance_51 : decode cX6_advance 51 = .ok (.iconst 1, 1) := by decide +kernel
theorem dX6_advance_52 : decode cX6_advance 52 = .ok (.isub, 1) := by decide +kernel
theorem dX6_advance_53 : decode cX6_advance 53 = .ok (.aaload, 1) := by decide +kernel
theorem dX6_advance_54 : decode cX6_advance 54 = .ok (.invokevirtual 50, 3) := by decide +kernel
theorem dX6_advance_57 : decode cX6_advance 57 = .ok (.aload_n 0, 1) := by decide +kernel
theorem dX6_advance_58 : decode cX6_advance 58 = .ok (.getfield 16, 3) := by decide +kernel
theorem dX6_advance_61 : decode cX6_advance 61 = .ok (.areturn, 1) := by decide +kernel
theorem dX6_retreat_0 : decode cX6_retreat 0 = .ok (.aload_n 0, 1) := by decide +kernel
theorem dX6_retreat_1 : decode cX6_retreat 1 = .ok (.dup, 1) := by decide +kernel
theorem dX6_retreat_2 : decode cX6_retreat 2 = .ok (.getfield 20, 3) := by decide +kernel
theorem dX6_retreat_5 : decode cX6_retreat 5 = .ok (.iconst 1, 1) := by decide +kernel
theorem dX6_retreat_6 : decode cX6_retreat 6 = .ok (.isub, 1) := by decide +kernel
theorem dX6_retreat_7 : decode cX6_retreat 7 = .ok (.putfield 20, 3) := by decide +kernel
theorem dX6_retreat_10 : decode cX6_retreat 10 = .ok (.aload_n 0, 1) := by decide +kernel
theorem dX6_retreat_11 : decode cX6_retreat 11 = .ok (.aload_n 0, 1) := by decide +kernel
theorem dX6_retreat_12 : decode cX6_retreat 12 = .ok (.getfield 11, 3) := by decide +kernel
theorem dX6_retreat_15 : decode cX6_retreat 15 = .ok (.aload_n 0, 1) := by decide +kernel
theorem dX6_retreat_16 : decode cX6_retreat 16 = .ok (.getfield 20, 3) := by decide +kernel
theorem dX6_retreat_19 : decode cX6_retreat 19 = .ok (.aaload, 1) := by decide +kernel
theorem dX6_retreat_20 : decode cX6_retreat 20 = .ok (.putfield 16, 3) := by decide +kernel
theorem dX6_retreat_23 : decode cX6_retreat 23 = .ok (.return_, 1) := by decide +kernel
theorem dX6_loseOldest_0 : decode cX6_loseOldest 0 = .ok (.aload_n 0, 1) := by decide +kernel
theorem dX6_loseOldest_1 : decode cX6_loseOldest 1 = .ok (.getfield 11, 3) := by decide +kernel
theorem dX6_loseOldest_4 : decode cX6_loseOldest 4 = .ok (.iconst 0, 1) := by decide +kernel
theorem dX6_loseOldest_5 : decode cX6_loseOldest 5 = .ok (.aaload, 1) := by decide +kernel
theorem dX6_loseOldest_6 : decode cX6_loseOldest 6 = .ok (.astore_n 1, 1) := by decide +kernel
theorem dX6_loseOldest_7 : decode cX6_loseOldest 7 = .ok (.iconst 0, 1) := by decide +kernel
theorem dX6_loseOldest_8 : decode cX6_loseOldest 8 = .ok (.istore_n 2, 1) := by decide +kernel
theorem dX6_loseOldest_9 : decode cX6_loseOldest 9 = .ok (.iload_n 2, 1) := by decide +kernel
theorem dX6_loseOldest_10 : decode cX6_loseOldest 10 = .ok (.bipush 10, 2) := by decide +kernel
theorem dX6_loseOldest_12 : decode cX6_loseOldest 12 = .ok (.if_icmp .ge 23, 3) := by decide +kernel
theorem dX6_loseOldest_15 : decode cX6_loseOldest 15 = .ok (.aload_n 0, 1) := by decide +kernel
theorem dX6_loseOldest_16 : decode cX6_loseOldest 16 = .ok (.getfield 11, 3) := by decide +kernel
theorem dX6_loseOldest_19 : decode cX6_loseOldest 19 = .ok (.iload_n 2, 1) := by decide +kernel
theorem dX6_loseOldest_20 : decode cX6_loseOldest 20 = .ok (.aload_n 0, 1) := by decide +kernel
theorem dX6_loseOldest_21 : decode cX6_loseOldest 21 = .ok (.getfield 11, 3) := by decide +kernel
theorem dX6_loseOldest_24 : decode cX6_loseOldest 24 = .ok (.iload_n 2, 1) := by decide +kernel
theorem dX6_loseOldest_25 : decode cX6_loseOldest 25 = .ok (.iconst 1, 1) := by decide +kernel
theorem dX6_loseOldest_26 : decode cX6_loseOldest 26 = .ok (.iadd, 1) := by decide +kernel
theorem dX6_loseOldest_27 : decode cX6_loseOldest 27 = .ok (.aaload, 1) := by decide +kernel
theorem dX6_loseOldest_28 : decode cX6_loseOldest 28 = .ok (.aastore, 1) := by decide +kernel
theorem dX6_loseOldest_29 : decode cX6_loseOldest 29 = .ok (.iinc 2 1, 3) := by decide +kernel
theorem dX6_loseOldest_32 : decode cX6_loseOldest 32 = .ok (.goto (-23), 3) := by decide +kernel
theorem dX6_loseOldest_35 : decode cX6_loseOldest 35 = .ok (.aload_n 0, 1) := by decide +kernel
theorem dX6_loseOldest_36 : decode cX6_loseOldest 36 = .ok (.getfield 11, 3) := by decide +kernel
theorem dX6_loseOldest_39 : decode cX6_loseOldest 39 = .ok (.bipush 10, 2) := by decide +kernel
theorem dX6_loseOldest_41 : decode cX6_loseOldest 41 = .ok (.aload_n 1, 1) := by decide +kernel
theorem dX6_loseOldest_42 : decode cX6_loseOldest 42 = .ok (.aastore, 1) := by decide +kernel
theorem dX6_loseOldest_43 : decode cX6_loseOldest 43 = .ok (.return_, 1) := by decide +kernel
theorem dX6_become_0 : decode cX6_become 0 = .ok (.aload_n 0, 1) := by decide +kernel
theorem dX6_become_1 : decode cX6_become 1 = .ok (.aload_n 1, 1) := by decide +kernel
theorem dX6_become_2 : decode cX6_become 2 = .ok (.getfield 20, 3) := by decide +kernel
theorem dX6_become_5 : decode cX6_become 5 = .ok (.putfield 20, 3) := by decide +kernel
theorem dX6_become_8 : decode cX6_become 8 = .ok (.iconst 0, 1) := by decide +kernel
theorem dX6_become_9 : decode cX6_become 9 = .ok (.istore_n 2, 1) := by decide +kernel
theorem dX6_become_10 : decode cX6_become 10 = .ok (.iload_n 2, 1) := by decide +kernel
theorem dX6_become_11 : decode cX6_become 11 = .ok (.aload_n 0, 1) := by decide +kernel
theorem dX6_become_12 : decode cX6_become 12 = .ok (.getfield 20, 3) := by decide +kernel
theorem dX6_become_15 : decode cX6_become 15 = .ok (.if_icmp .gt 24, 3) := by decide +kernel
theorem dX6_become_18 : decode cX6_become 18 = .ok (.aload_n 0, 1) := by decide +kernel
theorem dX6_become_19 : decode cX6_become 19 = .ok (.getfield 11, 3) := by decide +kernel
theorem dX6_become_22 : decode cX6_become 22 = .ok (.iload_n 2, 1) := by decide +kernel
theorem dX6_become_23 : decode cX6_become 23 = .ok (.aaload, 1) := by decide +kernel
theorem dX6_become_24 : decode cX6_become 24 = .ok (.aload_n 1, 1) := by decide +kernel
theorem dX6_become_25 : decode cX6_become 25 = .ok (.getfield 11, 3) := by decide +kernel
theorem dX6_become_28 : decode cX6_become 28 = .ok (.iload_n 2, 1) := by decide +kernel
theorem dX6_become_29 : decode cX6_become 29 = .ok (.aaload, 1) := by decide +kernel
theorem dX6_become_30 : decode cX6_become 30 = .ok (.invokevirtual 50, 3) := by decide +kernel
theorem dX6_become_33 : decode cX6_become 33 = .ok (.iinc 2 1, 3) := by decide +kernel
theorem dX6_become_36 : decode cX6_become 36 = .ok (.goto (-26), 3) := by decide +kernel
theorem dX6_become_39 : decode cX6_become 39 = .ok (.aload_n 0, 1) := by decide +kernel
theorem dX6_become_40 : decode cX6_become 40 = .ok (.aload_n 0, 1) := by decide +kernel
theorem dX6_become_41 : decode cX6_become 41 = .ok (.getfield 11, 3) := by decide +kernel
theorem dX6_become_44 : decode cX6_become 44 = .ok (.aload_n 0, 1) := by decide +kernel
theorem dX6_become_45 : decode cX6_become 45 = .ok (.getfield 20, 3) := by decide +kernel
theorem dX6_become_48 : decode cX6_become 48 = .ok (.aaload, 1) := by decide +kernel
theorem dX6_become_49 : decode cX6_become 49 = .ok (.putfield 16, 3) := by decide +kernel
theorem dX6_become_52 : decode cX6_become 52 = .ok (.return_, 1) := by decide +kernel
theorem dX7_init_0 : decode cX7_init 0 = .ok (.aload_n 0, 1) := by decide +kernel
theorem dX7_init_1 : decode cX7_init 1 = .ok (.invokespecial 3, 3) := by decide +kernel
theorem dX7_init_4 : decode cX7_init 4 = .ok (.aload_n 0, 1) := by decide +kernel
theorem dX7_init_5 : decode cX7_init 5 = .ok (.sipush 756, 3) := by decide +kernel
theorem dX7_init_8 : decode cX7_init 8 = .ok (.newarray .int, 2) := by decide +kernel
theorem dX7_init_10 : decode cX7_init 10 = .ok (.putfield 9, 3) := by decide +kernel
theorem dX7_init_13 : decode cX7_init 13 = .ok (.return_, 1) := by decide +kernel
theorem dX7_hoursFrom_0 : decode cX7_hoursFrom 0 = .ok (.bipush 7, 2) := by decide +kernel
theorem dX7_hoursFrom_2 : decode cX7_hoursFrom 2 = .ok (.istore 5, 2) := by decide +kernel
theorem dX7_hoursFrom_4 : decode cX7_hoursFrom 4 = .ok (.iload 5, 2) := by decide +kernel
theorem dX7_hoursFrom_6 : decode cX7_hoursFrom 6 = .ok (.iload_n 3, 1) := by decide +kernel
theorem dX7_hoursFrom_7 : decode cX7_hoursFrom 7 = .ok (.if_icmp .lt 93, 3) := by decide +kernel
theorem dX7_hoursFrom_10 : decode cX7_hoursFrom 10 = .ok (.iconst 0, 1) := by decide +kernel
theorem dX7_hoursFrom_11 : decode cX7_hoursFrom 11 = .ok (.istore 6, 2) := by decide +kernel
theorem dX7_hoursFrom_13 : decode cX7_hoursFrom 13 = .ok (.iload 6, 2) := by decide +kernel
theorem dX7_hoursFrom_15 : decode cX7_hoursFrom 15 = .ok (.bipush 84, 2) := by decide +kernel
theorem dX7_hoursFrom_17 : decode cX7_hoursFrom 17 = .ok (.if_icmp .ge 77, 3) := by decide +kernel
theorem dX7_hoursFrom_20 : decode cX7_hoursFrom 20 = .ok (.aload_n 1, 1) := by decide +kernel
theorem dX7_hoursFrom_21 : decode cX7_hoursFrom 21 = .ok (.iload 6, 2) := by decide +kernel
theorem dX7_hoursFrom_23 : decode cX7_hoursFrom 23 = .ok (.iload 5, 2) := by decide +kernel
theorem dX7_hoursFrom_25 : decode cX7_hoursFrom 25 = .ok (.invokevirtual 15, 3) := by decide +kernel
theorem dX7_hoursFrom_28 : decode cX7_hoursFrom 28 = .ok (.iload 4, 2) := by decide +kernel
theorem dX7_hoursFrom_30 : decode cX7_hoursFrom 30 = .ok (.iand, 1) := by decide +kernel
theorem dX7_hoursFrom_31 : decode cX7_hoursFrom 31 = .ok (.iload 4, 2) := by decide +kernel
theorem dX7_hoursFrom_33 : decode cX7_hoursFrom 33 = .ok (.if_icmp .ne 7, 3) := by decide +kernel
theorem dX7_hoursFrom_36 : decode cX7_hoursFrom 36 = .ok (.iconst 1, 1) := by decide +kernel
theorem dX7_hoursFrom_37 : decode cX7_hoursFrom 37 = .ok (.goto 4, 3) := by decide +kernel
theorem dX7_hoursFrom_40 : decode cX7_hoursFrom 40 = .ok (.iconst 0, 1) := by decide +kernel
theorem dX7_hoursFrom_41 : decode cX7_hoursFrom 41 = .ok (.istore 7, 2) := by decide +kernel
theorem dX7_hoursFrom_43 : decode cX7_hoursFrom 43 = .ok (.aload_n 0, 1) := by decide +kernel
theorem dX7_hoursFrom_44 : decode cX7_hoursFrom 44 = .ok (.getfield 9, 3) := by decide +kernel
theorem dX7_hoursFrom_47 : decode cX7_hoursFrom 47 = .ok (.iload 5, 2) := by decide +kernel
theorem dX7_hoursFrom_49 : decode cX7_hoursFrom 49 = .ok (.bipush 84, 2) := by decide +kernel
theorem dX7_hoursFrom_51 : decode cX7_hoursFrom 51 = .ok (.imul, 1) := by decide +kernel
theorem dX7_hoursFrom_52 : decode cX7_hoursFrom 52 = .ok (.iload 6, 2) := by decide +kernel
theorem dX7_hoursFrom_54 : decode cX7_hoursFrom 54 = .ok (.iadd, 1) := by decide +kernel
theorem dX7_hoursFrom_55 : decode cX7_hoursFrom 55 = .ok (.iload 7, 2) := by decide +kernel
theorem dX7_hoursFrom_57 : decode cX7_hoursFrom 57 = .ok (.ifCond .eq 29, 3) := by decide +kernel
theorem dX7_hoursFrom_60 : decode cX7_hoursFrom 60 = .ok (.iconst 1, 1) := by decide +kernel
theorem dX7_hoursFrom_61 : decode cX7_hoursFrom 61 = .ok (.aload_n 0, 1) := by decide +kernel
theorem dX7_hoursFrom_62 : decode cX7_hoursFrom 62 = .ok (.getfield 9, 3) := by decide +kernel
theorem dX7_hoursFrom_65 : decode cX7_hoursFrom 65 = .ok (.iload 5, 2) := by decide +kernel
theorem dX7_hoursFrom_67 : decode cX7_hoursFrom 67 = .ok (.iconst 1, 1) := by decide +kernel
theorem dX7_hoursFrom_68 : decode cX7_hoursFrom 68 = .ok (.iadd, 1) := by decide +kernel
theorem dX7_hoursFrom_69 : decode cX7_hoursFrom 69 = .ok (.bipush 84, 2) := by decide +kernel
theorem dX7_hoursFrom_71 : decode cX7_hoursFrom 71 = .ok (.imul, 1) := by decide +kernel
theorem dX7_hoursFrom_72 : decode cX7_hoursFrom 72 = .ok (.aload_n 0, 1) := by decide +kernel
theorem dX7_hoursFrom_73 : decode cX7_hoursFrom 73 = .ok (.iload 6, 2) := by decide +kernel
theorem dX7_hoursFrom_75 : decode cX7_hoursFrom 75 = .ok (.iload 5, 2) := by decide +kernel
theorem dX7_hoursFrom_77 : decode cX7_hoursFrom 77 = .ok (.invokevirtual 21, 3) := by decide +kernel
theorem dX7_hoursFrom_80 : decode cX7_hoursFrom 80 = .ok (.iadd, 1) := by decide +kernel
theorem dX7_hoursFrom_81 : decode cX7_hoursFrom 81 = .ok (.iaload, 1) := by decide +kernel
theorem dX7_hoursFrom_82 : decode cX7_hoursFrom 82 = .ok (.iadd, 1) := by decide +kernel
theorem dX7_hoursFrom_83 : decode cX7_hoursFrom 83 = .ok (.goto 4, 3) := by decide +kernel
theorem dX7_hoursFrom_86 : decode cX7_hoursFrom 86 = .ok (.iconst 0, 1) := by decide +kernel
theorem dX7_hoursFrom_87 : decode cX7_hoursFrom 87 = .ok (.iastore, 1) := by decide +kernel
theorem dX7_hoursFrom_88 : decode cX7_hoursFrom 88 = .ok (.iinc 6 1, 3) := by decide +kernel
theorem dX7_hoursFrom_91 : decode cX7_hoursFrom 91 = .ok (.goto (-78), 3) := by decide +kernel
theorem dX7_hoursFrom_94 : decode cX7_hoursFrom 94 = .ok (.iinc 5 (-1), 3) := by decide +kernel
theorem dX7_hoursFrom_97 : decode cX7_hoursFrom 97 = .ok (.goto (-93), 3) := by decide +kernel
theorem dX7_hoursFrom_100 : decode cX7_hoursFrom 100 = .ok (.aload_n 0, 1) := by decide +kernel
theorem dX7_hoursFrom_101 : decode cX7_hoursFrom 101 = .ok (.getfield 9, 3) := by decide +kernel
theorem dX7_hoursFrom_104 : decode cX7_hoursFrom 104 = .ok (.iload_n 3, 1) := by decide +kernel
theorem dX7_hoursFrom_105 : decode cX7_hoursFrom 105 = .ok (.bipush 84, 2) := by decide +kernel
theorem dX7_hoursFrom_107 : decode cX7_hoursFrom 107 = .ok (.imul, 1) := by decide +kernel
theorem dX7_hoursFrom_108 : decode cX7_hoursFrom 108 = .ok (.iload_n 2, 1) := by decide +kernel
theorem dX7_hoursFrom_109 : decode cX7_hoursFrom 109 = .ok (.iadd, 1) := by decide +kernel
theorem dX7_hoursFrom_110 : decode cX7_hoursFrom 110 = .ok (.iaload, 1) := by decide +kernel
theorem dX7_hoursFrom_111 : decode cX7_hoursFrom 111 = .ok (.ireturn, 1) := by decide +kernel
theorem dX7_tileAfter_0 : decode cX7_tileAfter 0 = .ok (.iload_n 1, 1) := by decide +kernel
theorem dX7_tileAfter_1 : decode cX7_tileAfter 1 = .ok (.istore 4, 2) := by decide +kernel
theorem dX7_tileAfter_3 : decode cX7_tileAfter 3 = .ok (.iconst 0, 1) := by decide +kernel
theorem dX7_tileAfter_4 : decode cX7_tileAfter 4 = .ok (.istore 5, 2) := by decide +kernel
theorem dX7_tileAfter_6 : decode cX7_tileAfter 6 = .ok (.iload 5, 2) := by decide +kernel
theorem dX7_tileAfter_8 : decode cX7_tileAfter 8 = .ok (.iload_n 3, 1) := by decide +kernel
theorem dX7_tileAfter_9 : decode cX7_tileAfter 9 = .ok (.if_icmp .ge 21, 3) := by decide +kernel
theorem dX7_tileAfter_12 : decode cX7_tileAfter 12 = .ok (.aload_n 0, 1) := by decide +kernel
theorem dX7_tileAfter_13 : decode cX7_tileAfter 13 = .ok (.iload 4, 2) := by decide +kernel
theorem dX7_tileAfter_15 : decode cX7_tileAfter 15 = .ok (.iload_n 2, 1) := by decide +kernel
theorem dX7_tileAfter_16 : decode cX7_tileAfter 16 = .ok (.iload 5, 2) := by decide +kernel
theorem dX7_tileAfter_18 : decode cX7_tileAfter 18 = .ok (.iadd, 1) := by decide +kernel
theorem dX7_tileAfter_19 : decode cX7_tileAfter 19 = .ok (.invokevirtual 21, 3) := by decide +kernel
theorem dX7_tileAfter_22 : decode cX7_tileAfter 22 = .ok (.istore 4, 2) := by decide +kernel
theorem dX7_tileAfter_24 : decode cX7_tileAfter 24 = .ok (.iinc 5 1, 3) := by decide +kernel
theorem dX7_tileAfter_27 : decode cX7_tileAfter 27 = .ok (.goto (-21), 3) := by decide +kernel
theorem dX7_tileAfter_30 : decode cX7_tileAfter 30 = .ok (.iload 4, 2) := by decide +kernel
theorem dX7_tileAfter_32 : decode cX7_tileAfter 32 = .ok (.ireturn, 1) := by decide +kernel
theorem dX7_onward_0 : decode cX7_onward 0 = .ok (.iload_n 1, 1) := by decide +kernel
theorem dX7_onward_1 : decode cX7_onward 1 = .ok (.bipush 7, 2) := by decide +kernel
theorem dX7_onward_3 : decode cX7_onward 3 = .ok (.irem, 1) := by decide +kernel
theorem dX7_onward_4 : decode cX7_onward 4 = .ok (.istore_n 3, 1) := by decide +kernel
theorem dX7_onward_5 : decode cX7_onward 5 = .ok (.iload_n 1, 1) := by decide +kernel
theorem dX7_onward_6 : decode cX7_onward 6 = .ok (.istore 4, 2) := by decide +kernel
theorem dX7_onward_8 : decode cX7_onward 8 = .ok (.iload_n 1, 1) := by decide +kernel
theorem dX7_onward_9 : decode cX7_onward 9 = .ok (.bipush 7, 2) := by decide +kernel
theorem dX7_onward_11 : decode cX7_onward 11 = .ok (.if_icmp .lt 18, 3) := by decide +kernel
theorem dX7_onward_14 : decode cX7_onward 14 = .ok (.aload_n 0, 1) := by decide +kernel
theorem dX7_onward_15 : decode cX7_onward 15 = .ok (.iload 4, 2) := by decide +kernel
theorem dX7_onward_17 : decode cX7_onward 17 = .ok (.iload_n 1, 1) := by decide +kernel
theorem dX7_onward_18 : decode cX7_onward 18 = .ok (.bipush 7, 2) := by decide +kernel
theorem dX7_onward_20 : decode cX7_onward 20 = .ok (.isub, 1) := by decide +kernel
theorem dX7_onward_21 : decode cX7_onward 21 = .ok (.iload_n 2, 1) := by decide +kernel
theorem dX7_onward_22 : decode cX7_onward 22 = .ok (.iconst 1, 1) := by decide +kernel
theorem dX7_onward_23 : decode cX7_onward 23 = .ok (.iadd, 1) := by decide +kernel
theorem dX7_onward_24 : decode cX7_onward 24 = .ok (.invokevirtual 24, 3) := by decide +kernel
theorem dX7_onward_27 : decode cX7_onward 27 = .ok (.istore 4, 2) := by decide +kernel
theorem dX7_onward_29 : decode cX7_onward 29 = .ok (.iload_n 3, 1) := by decide +kernel
theorem dX7_onward_30 : decode cX7_onward 30 = .ok (.ifCond .le 17, 3) := by decide +kernel
theorem dX7_onward_33 : decode cX7_onward 33 = .ok (.aload_n 0, 1) := by decide +kernel
theorem dX7_onward_34 : decode cX7_onward 34 = .ok (.iload 4, 2) := by decide +kernel
theorem dX7_onward_36 : decode cX7_onward 36 = .ok (.iload_n 1, 1) := by decide +kernel
theorem dX7_onward_37 : decode cX7_onward 37 = .ok (.iconst 1, 1) := by decide +kernel
theorem dX7_onward_38 : decode cX7_onward 38 = .ok (.isub, 1) := by decide +kernel
theorem dX7_onward_39 : decode cX7_onward 39 = .ok (.iload_n 2, 1) := by decide +kernel
theorem dX7_onward_40 : decode cX7_onward 40 = .ok (.iconst 1, 1) := by decide +kernel
theorem dX7_onward_41 : decode cX7_onward 41 = .ok (.iadd, 1) := by decide +kernel
theorem dX7_onward_42 : decode cX7_onward 42 = .ok (.invokevirtual 24, 3) := by decide +kernel
theorem dX7_onward_45 : decode cX7_onward 45 = .ok (.istore 4, 2) := by decide +kernel
theorem dX7_onward_47 : decode cX7_onward 47 = .ok (.iload_n 3, 1) := by decide +kernel
theorem dX7_onward_48 : decode cX7_onward 48 = .ok (.bipush 6, 2) := by decide +kernel
theorem dX7_onward_50 : decode cX7_onward 50 = .ok (.if_icmp .ge 17, 3) := by decide +kernel
theorem dX7_onward_53 : decode cX7_onward 53 = .ok (.aload_n 0, 1) := by decide +kernel
theorem dX7_onward_54 : decode cX7_onward 54 = .ok (.iload 4, 2) := by decide +kernel
theorem dX7_onward_56 : decode cX7_onward 56 = .ok (.iload_n 1, 1) := by decide +kernel
theorem dX7_onward_57 : decode cX7_onward 57 = .ok (.iconst 1, 1) := by decide +kernel
theorem dX7_onward_58 : decode cX7_onward 58 = .ok (.iadd, 1) := by decide +kernel
theorem dX7_onward_59 : decode cX7_onward 59 = .ok (.iload_n 2, 1) := by decide +kernel
theorem dX7_onward_60 : decode cX7_onward 60 = .ok (.iconst 1, 1) := by decide +kernel
theorem dX7_onward_61 : decode cX7_onward 61 = .ok (.iadd, 1) := by decide +kernel
theorem dX7_onward_62 : decode cX7_onward 62 = .ok (.invokevirtual 24, 3) := by decide +kernel
theorem dX7_onward_65 : decode cX7_onward 65 = .ok (.istore 4, 2) := by decide +kernel
theorem dX7_onward_67 : decode cX7_onward 67 = .ok (.iload_n 1, 1) := by decide +kernel
theorem dX7_onward_68 : decode cX7_onward 68 = .ok (.bipush 7, 2) := by decide +kernel
theorem dX7_onward_70 : decode cX7_onward 70 = .ok (.iadd, 1) := by decide +kernel
theorem dX7_onward_71 : decode cX7_onward 71 = .ok (.bipush 84, 2) := by decide +kernel
theorem dX7_onward_73 : decode cX7_onward 73 = .ok (.if_icmp .ge 18, 3) := by decide +kernel
theorem dX7_onward_76 : decode cX7_onward 76 = .ok (.aload_n 0, 1) := by decide +kernel
theorem dX7_onward_77 : decode cX7_onward 77 = .ok (.iload 4, 2) := by decide +kernel
theorem dX7_onward_79 : decode cX7_onward 79 = .ok (.iload_n 1, 1) := by decide +kernel
theorem dX7_onward_80 : decode cX7_onward 80 = .ok (.bipush 7, 2) := by decide +kernel
theorem dX7_onward_82 : decode cX7_onward 82 = .ok (.iadd, 1) := by decide +kernel
theorem dX7_onward_83 : decode cX7_onward 83 = .ok (.iload_n 2, 1) := by decide +kernel
theorem dX7_onward_84 : decode cX7_onward 84 = .ok (.iconst 1, 1) := by decide +kernel
theorem dX7_onward_85 : decode cX7_onward 85 = .ok (.iadd, 1) := by decide +kernel
theorem dX7_onward_86 : decode cX7_onward 86 = .ok (.invokevirtual 24, 3) := by decide +kernel
theorem dX7_onward_89 : decode cX7_onward 89 = .ok (.istore 4, 2) := by decide +kernel
theorem dX7_onward_91 : decode cX7_onward 91 = .ok (.iload 4, 2) := by decide +kernel
theorem dX7_onward_93 : decode cX7_onward 93 = .ok (.ireturn, 1) := by decide +kernel
theorem dX7_better_0 : decode cX7_better 0 = .ok (.aload_n 0, 1) := by decide +kernel
theorem dX7_better_1 : decode cX7_better 1 = .ok (.getfield 9, 3) := by decide +kernel
theorem dX7_better_4 : decode cX7_better 4 = .ok (.iload_n 3, 1) := by decide +kernel
theorem dX7_better_5 : decode cX7_better 5 = .ok (.bipush 84, 2) := by decide +kernel
theorem dX7_better_7 : decode cX7_better 7 = .ok (.imul, 1) := by decide +kernel
theorem dX7_better_8 : decode cX7_better 8 = .ok (.iload_n 1, 1) := by decide +kernel
theorem dX7_better_9 : decode cX7_better 9 = .ok (.iadd, 1) := by decide +kernel
theorem dX7_better_10 : decode cX7_better 10 = .ok (.iaload, 1) := by decide +kernel
theorem dX7_better_11 : decode cX7_better 11 = .ok (.istore 4, 2) := by decide +kernel
theorem dX7_better_13 : decode cX7_better 13 = .ok (.aload_n 0, 1) := by decide +kernel
theorem dX7_better_14 : decode cX7_better 14 = .ok (.getfield 9, 3) := by decide +kernel
theorem dX7_better_17 : decode cX7_better 17 = .ok (.iload_n 3, 1) := by decide +kernel
theorem dX7_better_18 : decode cX7_better 18 = .ok (.bipush 84, 2) := by decide +kernel
theorem dX7_better_20 : decode cX7_better 20 = .ok (.imul, 1) := by decide +kernel
theorem dX7_better_21 : decode cX7_better 21 = .ok (.iload_n 2, 1) := by decide +kernel
theorem dX7_better_22 : decode cX7_better 22 = .ok (.iadd, 1) := by decide +kernel
theorem dX7_better_23 : decode cX7_better 23 = .ok (.iaload, 1) := by decide +kernel
theorem dX7_better_24 : decode cX7_better 24 = .ok (.istore 5, 2) := by decide +kernel
theorem dX7_better_26 : decode cX7_better 26 = .ok (.iload 4, 2) := by decide +kernel
theorem dX7_better_28 : decode cX7_better 28 = .ok (.iload 5, 2) := by decide +kernel
theorem dX7_better_30 : decode cX7_better 30 = .ok (.if_icmp .ne 9, 3) := by decide +kernel
theorem dX7_better_33 : decode cX7_better 33 = .ok (.iload_n 1, 1) := by decide +kernel
theorem dX7_better_34 : decode cX7_better 34 = .ok (.iload_n 2, 1) := by decide +kernel
theorem dX7_better_35 : decode cX7_better 35 = .ok (.invokestatic 28, 3) := by decide +kernel
theorem dX7_better_38 : decode cX7_better 38 = .ok (.ireturn, 1) := by decide +kernel
theorem dX7_better_39 : decode cX7_better 39 = .ok (.iload 4, 2) := by decide +kernel
theorem dX7_better_41 : decode cX7_better 41 = .ok (.iload 5, 2) := by decide +kernel
theorem dX7_better_43 : decode cX7_better 43 = .ok (.if_icmp .le 7, 3) := by decide +kernel
theorem dX7_better_46 : decode cX7_better 46 = .ok (.iload_n 1, 1) := by decide +kernel
theorem dX7_better_47 : decode cX7_better 47 = .ok (.goto 4, 3) := by decide +kernel
theorem dX7_better_50 : decode cX7_better 50 = .ok (.iload_n 2, 1) := by decide +kernel
theorem dX7_better_51 : decode cX7_better 51 = .ok (.ireturn, 1) := by decide +kernel
theorem dX8_init_0 : decode cX8_init 0 = .ok (.aload_n 0, 1) := by decide +kernel
theorem dX8_init_1 : decode cX8_init 1 = .ok (.invokespecial 3, 3) := by decide +kernel
theorem dX8_init_4 : decode cX8_init 4 = .ok (.aload_n 0, 1) := by decide +kernel
theorem dX8_init_5 : decode cX8_init 5 = .ok (.bipush 6, 2) := by decide +kernel
theorem dX8_init_7 : decode cX8_init 7 = .ok (.newarray .int, 2) := by decide +kernel
theorem dX8_init_9 : decode cX8_init 9 = .ok (.putfield 11, 3) := by decide +kernel
theorem dX8_init_12 : decode cX8_init 12 = .ok (.aload_n 0, 1) := by decide +kernel
theorem dX8_init_13 : decode cX8_init 13 = .ok (.bipush 6, 2) := by decide +kernel
theorem dX8_init_15 : decode cX8_init 15 = .ok (.newarray .int, 2) := by decide +kernel
theorem dX8_init_17 : decode cX8_init 17 = .ok (.putfield 15, 3) := by decide +kernel
theorem dX8_init_20 : decode cX8_init 20 = .ok (.return_, 1) := by decide +kernel
theorem dX8_add_0 : decode cX8_add 0 = .ok (.aload_n 0, 1) := by decide +kernel
theorem dX8_add_1 : decode cX8_add 1 = .ok (.getfield 18, 3) := by decide +kernel
theorem dX8_add_4 : decode cX8_add 4 = .ok (.bipush 6, 2) := by decide +kernel
theorem dX8_add_6 : decode cX8_add 6 = .ok (.if_icmp .lt 5, 3) := by decide +kernel
theorem dX8_add_9 : decode cX8_add 9 = .ok (.iconst 0, 1) := by decide +kernel
theorem dX8_add_10 : decode cX8_add 10 = .ok (.ireturn, 1) := by decide +kernel
theorem dX8_add_11 : decode cX8_add 11 = .ok (.aload_n 0, 1) := by decide +kernel
theorem dX8_add_12 : decode cX8_add 12 = .ok (.getfield 11, 3) := by decide +kernel
theorem dX8_add_15 : decode cX8_add 15 = .ok (.aload_n 0, 1) := by decide +kernel
theorem dX8_add_16 : decode cX8_add 16 = .ok (.getfield 18, 3) := by decide +kernel
theorem dX8_add_19 : decode cX8_add 19 = .ok (.iload_n 1, 1) := by decide +kernel
theorem dX8_add_20 : decode cX8_add 20 = .ok (.iastore, 1) := by decide +kernel
theorem dX8_add_21 : decode cX8_add 21 = .ok (.aload_n 0, 1) := by decide +kernel
theorem dX8_add_22 : decode cX8_add 22 = .ok (.getfield 15, 3) := by decide +kernel
theorem dX8_add_25 : decode cX8_add 25 = .ok (.aload_n 0, 1) := by decide +kernel
theorem dX8_add_26 : decode cX8_add 26 = .ok (.getfield 18, 3) := by decide +kernel
theorem dX8_add_29 : decode cX8_add 29 = .ok (.iload_n 2, 1) := by decide +kernel
theorem dX8_add_30 : decode cX8_add 30 = .ok (.iastore, 1) := by decide +kernel
theorem dX8_add_31 : decode cX8_add 31 = .ok (.aload_n 0, 1) := by decide +kernel
theorem dX8_add_32 : decode cX8_add 32 = .ok (.dup, 1) := by decide +kernel
theorem dX8_add_33 : decode cX8_add 33 = .ok (.getfield 18, 3) := by decide +kernel
theorem dX8_add_36 : decode cX8_add 36 = .ok (.iconst 1, 1) := by decide +kernel
theorem dX8_add_37 : decode cX8_add 37 = .ok (.iadd, 1) := by decide +kernel
theorem dX8_add_38 : decode cX8_add 38 = .ok (.putfield 18, 3) := by decide +kernel
theorem dX8_add_41 : decode cX8_add 41 = .ok (.iconst 1, 1) := by decide +kernel
theorem dX8_add_42 : decode cX8_add 42 = .ok (.ireturn, 1) := by decide +kernel
theorem dX8_agrees_0 : decode cX8_agrees 0 = .ok (.iconst 0, 1) := by decide +kernel
theorem dX8_agrees_1 : decode cX8_agrees 1 = .ok (.istore 4, 2) := by decide +kernel
theorem dX8_agrees_3 : decode cX8_agrees 3 = .ok (.iload 4, 2) := by decide +kernel
theorem dX8_agrees_5 : decode cX8_agrees 5 = .ok (.aload_n 0, 1) := by decide +kernel
theorem dX8_agrees_6 : decode cX8_agrees 6 = .ok (.getfield 18, 3) := by decide +kernel
theorem dX8_agrees_9 : decode cX8_agrees 9 = .ok (.if_icmp .ge 47, 3) := by decide +kernel
theorem dX8_agrees_12 : decode cX8_agrees 12 = .ok (.aload_n 1, 1) := by decide +kernel
theorem dX8_agrees_13 : decode cX8_agrees 13 = .ok (.aload_n 0, 1) := by decide +kernel
theorem dX8_agrees_14 : decode cX8_agrees 14 = .ok (.getfield 11, 3) := by decide +kernel
theorem dX8_agrees_17 : decode cX8_agrees 17 = .ok (.iload 4, 2) := by decide +kernel
theorem dX8_agrees_19 : decode cX8_agrees 19 = .ok (.iaload, 1) := by decide +kernel
theorem dX8_agrees_20 : decode cX8_agrees 20 = .ok (.bipush 8, 2) := by decide +kernel
theorem dX8_agrees_22 : decode cX8_agrees 22 = .ok (.idiv, 1) := by decide +kernel
theorem dX8_agrees_23 : decode cX8_agrees 23 = .ok (.aload_n 0, 1) := by decide +kernel
theorem dX8_agrees_24 : decode cX8_agrees 24 = .ok (.getfield 11, 3) := by decide +kernel
theorem dX8_agrees_27 : decode cX8_agrees 27 = .ok (.iload 4, 2) := by decide +kernel
theorem dX8_agrees_29 : decode cX8_agrees 29 = .ok (.iaload, 1) := by decide +kernel
theorem dX8_agrees_30 : decode cX8_agrees 30 = .ok (.bipush 8, 2) := by decide +kernel
theorem dX8_agrees_32 : decode cX8_agrees 32 = .ok (.irem, 1) := by decide +kernel
theorem dX8_agrees_33 : decode cX8_agrees 33 = .ok (.iload_n 2, 1) := by decide +kernel
theorem dX8_agrees_34 : decode cX8_agrees 34 = .ok (.iload_n 3, 1) := by decide +kernel
theorem dX8_agrees_35 : decode cX8_agrees 35 = .ok (.invokevirtual 22, 3) := by decide +kernel
theorem dX8_agrees_38 : decode cX8_agrees 38 = .ok (.aload_n 0, 1) := by decide +kernel
theorem dX8_agrees_39 : decode cX8_agrees 39 = .ok (.getfield 15, 3) := by decide +kernel
theorem dX8_agrees_42 : decode cX8_agrees 42 = .ok (.iload 4, 2) := by decide +kernel
theorem dX8_agrees_44 : decode cX8_agrees 44 = .ok (.iaload, 1) := by decide +kernel
theorem dX8_agrees_45 : decode cX8_agrees 45 = .ok (.if_icmp .eq 5, 3) := by decide +kernel
theorem dX8_agrees_48 : decode cX8_agrees 48 = .ok (.iconst 0, 1) := by decide +kernel
theorem dX8_agrees_49 : decode cX8_agrees 49 = .ok (.ireturn, 1) := by decide +kernel
theorem dX8_agrees_50 : decode cX8_agrees 50 = .ok (.iinc 4 1, 3) := by decide +kernel
theorem dX8_agrees_53 : decode cX8_agrees 53 = .ok (.goto (-50), 3) := by decide +kernel
theorem dX8_agrees_56 : decode cX8_agrees 56 = .ok (.iconst 1, 1) := by decide +kernel
theorem dX8_agrees_57 : decode cX8_agrees 57 = .ok (.ireturn, 1) := by decide +kernel
theorem dX8_suspected_0 : decode cX8_suspected 0 = .ok (.aload_n 0, 1) := by decide +kernel
theorem dX8_suspected_1 : decode cX8_suspected 1 = .ok (.aload_n 1, 1) := by decide +kernel
theorem dX8_suspected_2 : decode cX8_suspected 2 = .ok (.iconst (-1), 1) := by decide +kernel
theorem dX8_suspected_3 : decode cX8_suspected 3 = .ok (.iconst 0, 1) := by decide +kernel
theorem dX8_suspected_4 : decode cX8_suspected 4 = .ok (.invokevirtual 28, 3) := by decide +kernel
theorem dX8_suspected_7 : decode cX8_suspected 7 = .ok (.ifCond .eq 8, 3) := by decide +kernel
theorem dX8_suspected_10 : decode cX8_suspected 10 = .ok (.ldc 32, 2) := by decide +kernel
theorem dX8_suspected_12 : decode cX8_suspected 12 = .ok (.goto 4, 3) := by decide +kernel
theorem dX8_suspected_15 : decode cX8_suspected 15 = .ok (.iconst 0, 1) := by decide +kernel
theorem dX8_suspected_16 : decode cX8_suspected 16 = .ok (.istore_n 2, 1) := by decide +kernel
theorem dX8_suspected_17 : decode cX8_suspected 17 = .ok (.iconst 0, 1) := by decide +kernel
theorem dX8_suspected_18 : decode cX8_suspected 18 = .ok (.istore_n 3, 1) := by decide +kernel
theorem dX8_suspected_19 : decode cX8_suspected 19 = .ok (.iload_n 3, 1) := by decide +kernel
theorem dX8_suspected_20 : decode cX8_suspected 20 = .ok (.bipush 20, 2) := by decide +kernel
theorem dX8_suspected_22 : decode cX8_suspected 22 = .ok (.if_icmp .ge 42, 3) := by decide +kernel
theorem dX8_suspected_25 : decode cX8_suspected 25 = .ok (.aload_n 1, 1) := by decide +kernel
theorem dX8_suspected_26 : decode cX8_suspected 26 = .ok (.iload_n 3, 1) := by decide +kernel
theorem dX8_suspected_27 : decode cX8_suspected 27 = .ok (.invokevirtual 33, 3) := by decide +kernel
theorem dX8_suspected_30 : decode cX8_suspected 30 = .ok (.ifCond .eq 28, 3) := by decide +kernel
theorem dX8_suspected_33 : decode cX8_suspected 33 = .ok (.aload_n 1, 1) := by decide +kernel
theorem dX8_suspected_34 : decode cX8_suspected 34 = .ok (.iload_n 3, 1) := by decide +kernel
theorem dX8_suspected_35 : decode cX8_suspected 35 = .ok (.invokevirtual 37, 3) := by decide +kernel
theorem dX8_suspected_38 : decode cX8_suspected 38 = .ok (.ifCond .ne 20, 3) := by decide +kernel
theorem dX8_suspected_41 : decode cX8_suspected 41 = .ok (.aload_n 0, 1) := by decide +kernel
theorem dX8_suspected_42 : decode cX8_suspected 42 = .ok (.aload_n 1, 1) := by decide +kernel
theorem dX8_suspected_43 : decode cX8_suspected 43 = .ok (.iload_n 3, 1) := by decide +kernel
theorem dX8_suspected_44 : decode cX8_suspected 44 = .ok (.bipush 7, 2) := by decide +kernel
theorem dX8_suspected_46 : decode cX8_suspected 46 = .ok (.invokevirtual 28, 3) := by decide +kernel
theorem dX8_suspected_49 : decode cX8_suspected 49 = .ok (.ifCond .eq 9, 3) := by decide +kernel
theorem dX8_suspected_52 : decode cX8_suspected 52 = .ok (.iload_n 2, 1) := by decide +kernel
theorem dX8_suspected_53 : decode cX8_suspected 53 = .ok (.iconst 1, 1) := by decide +kernel
theorem dX8_suspected_54 : decode cX8_suspected 54 = .ok (.iload_n 3, 1) := by decide +kernel
theorem dX8_suspected_55 : decode cX8_suspected 55 = .ok (.ishl, 1) := by decide +kernel
theorem dX8_suspected_56 : decode cX8_suspected 56 = .ok (.ior, 1) := by decide +kernel
theorem dX8_suspected_57 : decode cX8_suspected 57 = .ok (.istore_n 2, 1) := by decide +kernel
theorem dX8_suspected_58 : decode cX8_suspected 58 = .ok (.iinc 3 1, 3) := by decide +kernel
theorem dX8_suspected_61 : decode cX8_suspected 61 = .ok (.goto (-42), 3) := by decide +kernel
theorem dX8_suspected_64 : decode cX8_suspected 64 = .ok (.iload_n 2, 1) := by decide +kernel
theorem dX8_suspected_65 : decode cX8_suspected 65 = .ok (.ireturn, 1) := by decide +kernel
theorem dX8_glassesOf_0 : decode cX8_glassesOf 0 = .ok (.aload_n 1, 1) := by decide +kernel
theorem dX8_glassesOf_1 : decode cX8_glassesOf 1 = .ok (.getfield 40, 3) := by decide +kernel
theorem dX8_glassesOf_4 : decode cX8_glassesOf 4 = .ok (.getfield 44, 3) := by decide +kernel
theorem dX8_glassesOf_7 : decode cX8_glassesOf 7 = .ok (.aload_n 1, 1) := by decide +kernel
theorem dX8_glassesOf_8 : decode cX8_glassesOf 8 = .ok (.getfield 49, 3) := by decide +kernel
theorem dX8_glassesOf_11 : decode cX8_glassesOf 11 = .ok (.getfield 53, 3) := by decide +kernel
theorem dX8_glassesOf_14 : decode cX8_glassesOf 14 = .ok (.getfield 59, 3) := by decide +kernel
theorem dX8_glassesOf_17 : decode cX8_glassesOf 17 = .ok (.iload_n 2, 1) := by decide +kernel
theorem dX8_glassesOf_18 : decode cX8_glassesOf 18 = .ok (.iaload, 1) := by decide +kernel
theorem dX8_glassesOf_19 : decode cX8_glassesOf 19 = .ok (.iaload, 1) := by decide +kernel
theorem dX8_glassesOf_20 : decode cX8_glassesOf 20 = .ok (.istore_n 3, 1) := by decide +kernel
theorem dX8_glassesOf_21 : decode cX8_glassesOf 21 = .ok (.iconst 0, 1) := by decide +kernel
theorem dX8_glassesOf_22 : decode cX8_glassesOf 22 = .ok (.istore 4, 2) := by decide +kernel
theorem dX8_glassesOf_24 : decode cX8_glassesOf 24 = .ok (.iconst 0, 1) := by decide +kernel
theorem dX8_glassesOf_25 : decode cX8_glassesOf 25 = .ok (.istore 5, 2) := by decide +kernel
theorem dX8_glassesOf_27 : decode cX8_glassesOf 27 = .ok (.iload 5, 2) := by decide +kernel
theorem dX8_glassesOf_29 : decode cX8_glassesOf 29 = .ok (.bipush 8, 2) := by decide +kernel
theorem dX8_glassesOf_31 : decode cX8_glassesOf 31 = .ok (.if_icmp .ge 31, 3) := by decide +kernel
theorem dX8_glassesOf_34 : decode cX8_glassesOf 34 = .ok (.aload_n 0, 1) := by decide +kernel
theorem dX8_glassesOf_35 : decode cX8_glassesOf 35 = .ok (.aload_n 1, 1) := by decide +kernel
theorem dX8_glassesOf_36 : decode cX8_glassesOf 36 = .ok (.iload_n 2, 1) := by decide +kernel
theorem dX8_glassesOf_37 : decode cX8_glassesOf 37 = .ok (.iload 5, 2) := by decide +kernel
theorem dX8_glassesOf_39 : decode cX8_glassesOf 39 = .ok (.iload_n 3, 1) := by decide +kernel
theorem dX8_glassesOf_40 : decode cX8_glassesOf 40 = .ok (.iand, 1) := by decide +kernel
theorem dX8_glassesOf_41 : decode cX8_glassesOf 41 = .ok (.invokevirtual 28, 3) := by decide +kernel
theorem dX8_glassesOf_44 : decode cX8_glassesOf 44 = .ok (.ifCond .eq 12, 3) := by decide +kernel
theorem dX8_glassesOf_47 : decode cX8_glassesOf 47 = .ok (.iload 4, 2) := by decide +kernel
theorem dX8_glassesOf_49 : decode cX8_glassesOf 49 = .ok (.iconst 1, 1) := by decide +kernel
theorem dX8_glassesOf_50 : decode cX8_glassesOf 50 = .ok (.iload 5, 2) := by decide +kernel
theorem dX8_glassesOf_52 : decode cX8_glassesOf 52 = .ok (.ishl, 1) := by decide +kernel
theorem dX8_glassesOf_53 : decode cX8_glassesOf 53 = .ok (.ior, 1) := by decide +kernel
theorem dX8_glassesOf_54 : decode cX8_glassesOf 54 = .ok (.istore 4, 2) := by decide +kernel
theorem dX8_glassesOf_56 : decode cX8_glassesOf 56 = .ok (.iinc 5 1, 3) := by decide +kernel
theorem dX8_glassesOf_59 : decode cX8_glassesOf 59 = .ok (.goto (-32), 3) := by decide +kernel
theorem dX8_glassesOf_62 : decode cX8_glassesOf 62 = .ok (.iload 4, 2) := by decide +kernel
theorem dX8_glassesOf_64 : decode cX8_glassesOf 64 = .ok (.ireturn, 1) := by decide +kernel
theorem dX8_bestPlace_0 : decode cX8_bestPlace 0 = .ok (.iload_n 2, 1) := by decide +kernel
theorem dX8_bestPlace_1 : decode cX8_bestPlace 1 = .ok (.ifCond .ne 6, 3) := by decide +kernel
theorem dX8_bestPlace_4 : decode cX8_bestPlace 4 = .ok (.bipush (-9), 2) := by decide +kernel
theorem dX8_bestPlace_6 : decode cX8_bestPlace 6 = .ok (.ireturn, 1) := by decide +kernel
theorem dX8_bestPlace_7 : decode cX8_bestPlace 7 = .ok (.bipush (-9), 2) := by decide +kernel
theorem dX8_bestPlace_9 : decode cX8_bestPlace 9 = .ok (.istore_n 3, 1) := by decide +kernel
theorem dX8_bestPlace_10 : decode cX8_bestPlace 10 = .ok (.bipush 22, 2) := by decide +kernel
theorem dX8_bestPlace_12 : decode cX8_bestPlace 12 = .ok (.istore 4, 2) := by decide +kernel
theorem dX8_bestPlace_14 : decode cX8_bestPlace 14 = .ok (.iconst 0, 1) := by decide +kernel
theorem dX8_bestPlace_15 : decode cX8_bestPlace 15 = .ok (.istore 5, 2) := by decide +kernel
theorem dX8_bestPlace_17 : decode cX8_bestPlace 17 = .ok (.iload 5, 2) := by decide +kernel
theorem dX8_bestPlace_19 : decode cX8_bestPlace 19 = .ok (.sipush 672, 3) := by decide +kernel
theorem dX8_bestPlace_22 : decode cX8_bestPlace 22 = .ok (.if_icmp .ge 41, 3) := by decide +kernel
theorem dX8_bestPlace_25 : decode cX8_bestPlace 25 = .ok (.aload_n 0, 1) := by decide +kernel
theorem dX8_bestPlace_26 : decode cX8_bestPlace 26 = .ok (.aload_n 1, 1) := by decide +kernel
theorem dX8_bestPlace_27 : decode cX8_bestPlace 27 = .ok (.iload_n 2, 1) := by decide +kernel
theorem dX8_bestPlace_28 : decode cX8_bestPlace 28 = .ok (.iload 5, 2) := by decide +kernel
theorem dX8_bestPlace_30 : decode cX8_bestPlace 30 = .ok (.bipush 8, 2) := by decide +kernel
theorem dX8_bestPlace_32 : decode cX8_bestPlace 32 = .ok (.idiv, 1) := by decide +kernel
theorem dX8_bestPlace_33 : decode cX8_bestPlace 33 = .ok (.iload 5, 2) := by decide +kernel
theorem dX8_bestPlace_35 : decode cX8_bestPlace 35 = .ok (.bipush 8, 2) := by decide +kernel
theorem dX8_bestPlace_37 : decode cX8_bestPlace 37 = .ok (.irem, 1) := by decide +kernel
theorem dX8_bestPlace_38 : decode cX8_bestPlace 38 = .ok (.invokevirtual 64, 3) := by decide +kernel
theorem dX8_bestPlace_41 : decode cX8_bestPlace 41 = .ok (.istore 6, 2) := by decide +kernel
theorem dX8_bestPlace_43 : decode cX8_bestPlace 43 = .ok (.iload 6, 2) := by decide +kernel
theorem dX8_bestPlace_45 : decode cX8_bestPlace 45 = .ok (.iload 4, 2) := by decide +kernel
theorem dX8_bestPlace_47 : decode cX8_bestPlace 47 = .ok (.if_icmp .ge 10, 3) := by decide +kernel
theorem dX8_bestPlace_50 : decode cX8_bestPlace 50 = .ok (.iload 6, 2) := by decide +kernel
theorem dX8_bestPlace_52 : decode cX8_bestPlace 52 = .ok (.istore 4, 2) := by decide +kernel
theorem dX8_bestPlace_54 : decode cX8_bestPlace 54 = .ok (.iload 5, 2) := by decide +kernel
theorem dX8_bestPlace_56 : decode cX8_bestPlace 56 = .ok (.istore_n 3, 1) := by decide +kernel
theorem dX8_bestPlace_57 : decode cX8_bestPlace 57 = .ok (.iinc 5 1, 3) := by decide +kernel
theorem dX8_bestPlace_60 : decode cX8_bestPlace 60 = .ok (.goto (-43), 3) := by decide +kernel
theorem dX8_bestPlace_63 : decode cX8_bestPlace 63 = .ok (.iload_n 3, 1) := by decide +kernel
theorem dX8_bestPlace_64 : decode cX8_bestPlace 64 = .ok (.ireturn, 1) := by decide +kernel
theorem dX8_mostAlike_0 : decode cX8_mostAlike 0 = .ok (.iload_n 2, 1) := by decide +kernel
theorem dX8_mostAlike_1 : decode cX8_mostAlike 1 = .ok (.invokestatic 68, 3) := by decide +kernel
theorem dX8_mostAlike_4 : decode cX8_mostAlike 4 = .ok (.istore 5, 2) := by decide +kernel
theorem dX8_mostAlike_6 : decode cX8_mostAlike 6 = .ok (.aload_n 1, 1) := by decide +kernel
theorem dX8_mostAlike_7 : decode cX8_mostAlike 7 = .ok (.iload_n 3, 1) := by decide +kernel
theorem dX8_mostAlike_8 : decode cX8_mostAlike 8 = .ok (.iload 4, 2) := by decide +kernel
theorem dX8_mostAlike_10 : decode cX8_mostAlike 10 = .ok (.invokevirtual 74, 3) := by decide +kernel
theorem dX8_mostAlike_13 : decode cX8_mostAlike 13 = .ok (.bipush 7, 2) := by decide +kernel
theorem dX8_mostAlike_15 : decode cX8_mostAlike 15 = .ok (.if_icmp .ne 6, 3) := by decide +kernel
theorem dX8_mostAlike_18 : decode cX8_mostAlike 18 = .ok (.iload 5, 2) := by decide +kernel
theorem dX8_mostAlike_20 : decode cX8_mostAlike 20 = .ok (.ireturn, 1) := by decide +kernel
theorem dX8_mostAlike_21 : decode cX8_mostAlike 21 = .ok (.aload_n 0, 1) := by decide +kernel
theorem dX8_mostAlike_22 : decode cX8_mostAlike 22 = .ok (.iload_n 2, 1) := by decide +kernel
theorem dX8_mostAlike_23 : decode cX8_mostAlike 23 = .ok (.aload_n 1, 1) := by decide +kernel
theorem dX8_mostAlike_24 : decode cX8_mostAlike 24 = .ok (.iload_n 3, 1) := by decide +kernel
theorem dX8_mostAlike_25 : decode cX8_mostAlike 25 = .ok (.iload 4, 2) := by decide +kernel
theorem dX8_mostAlike_27 : decode cX8_mostAlike 27 = .ok (.invokevirtual 78, 3) := by decide +kernel
theorem dX8_mostAlike_30 : decode cX8_mostAlike 30 = .ok (.invokevirtual 81, 3) := by decide +kernel
theorem dX8_mostAlike_33 : decode cX8_mostAlike 33 = .ok (.aload_n 0, 1) := by decide +kernel
theorem dX8_mostAlike_34 : decode cX8_mostAlike 34 = .ok (.iload_n 2, 1) := by decide +kernel
theorem dX8_mostAlike_35 : decode cX8_mostAlike 35 = .ok (.aload_n 1, 1) := by decide +kernel
theorem dX8_mostAlike_36 : decode cX8_mostAlike 36 = .ok (.iload_n 3, 1) := by decide +kernel
theorem dX8_mostAlike_37 : decode cX8_mostAlike 37 = .ok (.iload 4, 2) := by decide +kernel
theorem dX8_mostAlike_39 : decode cX8_mostAlike 39 = .ok (.invokevirtual 84, 3) := by decide +kernel
theorem dX8_mostAlike_42 : decode cX8_mostAlike 42 = .ok (.invokevirtual 81, 3) := by decide +kernel
theorem dX8_mostAlike_45 : decode cX8_mostAlike 45 = .ok (.iadd, 1) := by decide +kernel
theorem dX8_mostAlike_46 : decode cX8_mostAlike 46 = .ok (.istore 6, 2) := by decide +kernel
theorem dX8_mostAlike_48 : decode cX8_mostAlike 48 = .ok (.iload 6, 2) := by decide +kernel
theorem dX8_mostAlike_50 : decode cX8_mostAlike 50 = .ok (.iload 5, 2) := by decide +kernel
theorem dX8_mostAlike_52 : decode cX8_mostAlike 52 = .ok (.iload 6, 2) := by decide +kernel
theorem dX8_mostAlike_54 : decode cX8_mostAlike 54 = .ok (.isub, 1) := by decide +kernel
theorem dX8_mostAlike_55 : decode cX8_mostAlike 55 = .ok (.invokestatic 87, 3) := by decide +kernel
theorem dX8_mostAlike_58 : decode cX8_mostAlike 58 = .ok (.ireturn, 1) := by decide +kernel
theorem dX8_bitOf_0 : decode cX8_bitOf 0 = .ok (.iload_n 2, 1) := by decide +kernel
theorem dX8_bitOf_1 : decode cX8_bitOf 1 = .ok (.iconst (-1), 1) := by decide +kernel
theorem dX8_bitOf_2 : decode cX8_bitOf 2 = .ok (.if_icmp .ne 7, 3) := by decide +kernel
theorem dX8_bitOf_5 : decode cX8_bitOf 5 = .ok (.iconst 0, 1) := by decide +kernel
theorem dX8_bitOf_6 : decode cX8_bitOf 6 = .ok (.goto 8, 3) := by decide +kernel
theorem dX8_bitOf_9 : decode cX8_bitOf 9 = .ok (.iload_n 1, 1) := by decide +kernel
theorem dX8_bitOf_10 : decode cX8_bitOf 10 = .ok (.iload_n 2, 1) := by decide +kernel
theorem dX8_bitOf_11 : decode cX8_bitOf 11 = .ok (.ishr, 1) := by decide +kernel
theorem dX8_bitOf_12 : decode cX8_bitOf 12 = .ok (.iconst 1, 1) := by decide +kernel
theorem dX8_bitOf_13 : decode cX8_bitOf 13 = .ok (.iand, 1) := by decide +kernel
theorem dX8_bitOf_14 : decode cX8_bitOf 14 = .ok (.ireturn, 1) := by decide +kernel
theorem dX9_init_0 : decode cX9_init 0 = .ok (.aload_n 0, 1) := by decide +kernel
theorem dX9_init_1 : decode cX9_init 1 = .ok (.invokespecial 3, 3) := by decide +kernel
theorem dX9_init_4 : decode cX9_init 4 = .ok (.aload_n 0, 1) := by decide +kernel
theorem dX9_init_5 : decode cX9_init 5 = .ok (.new 9, 3) := by decide +kernel
theorem dX9_init_8 : decode cX9_init 8 = .ok (.dup, 1) := by decide +kernel
theorem dX9_init_9 : decode cX9_init 9 = .ok (.invokespecial 11, 3) := by decide +kernel
theorem dX9_init_12 : decode cX9_init 12 = .ok (.putfield 12, 3) := by decide +kernel
theorem dX9_init_15 : decode cX9_init 15 = .ok (.aload_n 0, 1) := by decide +kernel
theorem dX9_init_16 : decode cX9_init 16 = .ok (.new 16, 3) := by decide +kernel
theorem dX9_init_19 : decode cX9_init 19 = .ok (.dup, 1) := by decide +kernel
theorem dX9_init_20 : decode cX9_init 20 = .ok (.invokespecial 18, 3) := by decide +kernel
theorem dX9_init_23 : decode cX9_init 23 = .ok (.putfield 19, 3) := by decide +kernel
theorem dX9_init_26 : decode cX9_init 26 = .ok (.aload_n 0, 1) := by decide +kernel
theorem dX9_init_27 : decode cX9_init 27 = .ok (.new 23, 3) := by decide +kernel
theorem dX9_init_30 : decode cX9_init 30 = .ok (.dup, 1) := by decide +kernel
theorem dX9_init_31 : decode cX9_init 31 = .ok (.invokespecial 25, 3) := by decide +kernel
theorem dX9_init_34 : decode cX9_init 34 = .ok (.putfield 26, 3) := by decide +kernel
theorem dX9_init_37 : decode cX9_init 37 = .ok (.aload_n 0, 1) := by decide +kernel
theorem dX9_init_38 : decode cX9_init 38 = .ok (.new 30, 3) := by decide +kernel
theorem dX9_init_41 : decode cX9_init 41 = .ok (.dup, 1) := by decide +kernel
theorem dX9_init_42 : decode cX9_init 42 = .ok (.invokespecial 32, 3) := by decide +kernel
theorem dX9_init_45 : decode cX9_init 45 = .ok (.putfield 33, 3) := by decide +kernel
theorem dX9_init_48 : decode cX9_init 48 = .ok (.aload_n 0, 1) := by decide +kernel
theorem dX9_init_49 : decode cX9_init 49 = .ok (.new 37, 3) := by decide +kernel
theorem dX9_init_52 : decode cX9_init 52 = .ok (.dup, 1) := by decide +kernel
theorem dX9_init_53 : decode cX9_init 53 = .ok (.invokespecial 39, 3) := by decide +kernel
theorem dX9_init_56 : decode cX9_init 56 = .ok (.putfield 40, 3) := by decide +kernel
theorem dX9_init_59 : decode cX9_init 59 = .ok (.aload_n 0, 1) := by decide +kernel
theorem dX9_init_60 : decode cX9_init 60 = .ok (.iconst 2, 1) := by decide +kernel
theorem dX9_init_61 : decode cX9_init 61 = .ok (.anewarray 44, 3) := by decide +kernel
theorem dX9_init_64 : decode cX9_init 64 = .ok (.putfield 46, 3) := by decide +kernel
theorem dX9_init_67 : decode cX9_init 67 = .ok (.aload_n 0, 1) := by decide +kernel
theorem dX9_init_68 : decode cX9_init 68 = .ok (.new 50, 3) := by decide +kernel
theorem dX9_init_71 : decode cX9_init 71 = .ok (.dup, 1) := by decide +kernel
theorem dX9_init_72 : decode cX9_init 72 = .ok (.invokespecial 52, 3) := by decide +kernel
theorem dX9_init_75 : decode cX9_init 75 = .ok (.putfield 53, 3) := by decide +kernel
theorem dX9_init_78 : decode cX9_init 78 = .ok (.iconst 0, 1) := by decide +kernel
theorem dX9_init_79 : decode cX9_init 79 = .ok (.istore_n 1, 1) := by decide +kernel
theorem dX9_init_80 : decode cX9_init 80 = .ok (.iload_n 1, 1) := by decide +kernel
theorem dX9_init_81 : decode cX9_init 81 = .ok (.iconst 2, 1) := by decide +kernel
theorem dX9_init_82 : decode cX9_init 82 = .ok (.if_icmp .ge 22, 3) := by decide +kernel
theorem dX9_init_85 : decode cX9_init 85 = .ok (.aload_n 0, 1) := by decide +kernel
theorem dX9_init_86 : decode cX9_init 86 = .ok (.getfield 46, 3) := by decide +kernel
theorem dX9_init_89 : decode cX9_init 89 = .ok (.iload_n 1, 1) := by decide +kernel
theorem dX9_init_90 : decode cX9_init 90 = .ok (.new 44, 3) := by decide +kernel
theorem dX9_init_93 : decode cX9_init 93 = .ok (.dup, 1) := by decide +kernel
theorem dX9_init_94 : decode cX9_init 94 = .ok (.invokespecial 57, 3) := by decide +kernel
theorem dX9_init_97 : decode cX9_init 97 = .ok (.aastore, 1) := by decide +kernel
theorem dX9_init_98 : decode cX9_init 98 = .ok (.iinc 1 1, 3) := by decide +kernel
theorem dX9_init_101 : decode cX9_init 101 = .ok (.goto (-21), 3) := by decide +kernel
theorem dX9_init_104 : decode cX9_init 104 = .ok (.aload_n 0, 1) := by decide +kernel
theorem dX9_init_105 : decode cX9_init 105 = .ok (.getfield 19, 3) := by decide +kernel
theorem dX9_init_108 : decode cX9_init 108 = .ok (.getfield 58, 3) := by decide +kernel
theorem dX9_init_111 : decode cX9_init 111 = .ok (.aload_n 0, 1) := by decide +kernel
theorem dX9_init_112 : decode cX9_init 112 = .ok (.getfield 19, 3) := by decide +kernel
theorem dX9_init_115 : decode cX9_init 115 = .ok (.getfield 62, 3) := by decide +kernel
theorem dX9_init_118 : decode cX9_init 118 = .ok (.invokevirtual 65, 3) := by decide +kernel
theorem dX9_init_121 : decode cX9_init 121 = .ok (.return_, 1) := by decide +kernel
theorem dX9_type_0 : decode cX9_type 0 = .ok (.iload_n 1, 1) := by decide +kernel
theorem dX9_type_1 : decode cX9_type 1 = .ok (.ifCond .lt 10, 3) := by decide +kernel
theorem dX9_type_4 : decode cX9_type 4 = .ok (.iload_n 1, 1) := by decide +kernel
theorem dX9_type_5 : decode cX9_type 5 = .ok (.sipush 255, 3) := by decide +kernel
theorem dX9_type_8 : decode cX9_type 8 = .ok (.if_icmp .le 5, 3) := by decide +kernel
theorem dX9_type_11 : decode cX9_type 11 = .ok (.iconst (-1), 1) := by decide +kernel
theorem dX9_type_12 : decode cX9_type 12 = .ok (.ireturn, 1) := by decide +kernel
theorem dX9_type_13 : decode cX9_type 13 = .ok (.aload_n 0, 1) := by decide +kernel
theorem dX9_type_14 : decode cX9_type 14 = .ok (.getfield 12, 3) := by decide +kernel
theorem dX9_type_17 : decode cX9_type 17 = .ok (.iload_n 1, 1) := by decide +kernel
theorem dX9_type_18 : decode cX9_type 18 = .ok (.invokevirtual 69, 3) := by decide +kernel
theorem dX9_type_21 : decode cX9_type 21 = .ok (.ifCond .eq 13, 3) := by decide +kernel
theorem dX9_type_24 : decode cX9_type 24 = .ok (.aload_n 0, 1) := by decide +kernel
theorem dX9_type_25 : decode cX9_type 25 = .ok (.getfield 12, 3) := by decide +kernel
theorem dX9_type_28 : decode cX9_type 28 = .ok (.getfield 73, 3) := by decide +kernel
theorem dX9_type_31 : decode cX9_type 31 = .ok (.goto 5, 3) := by decide +kernel
theorem dX9_type_34 : decode cX9_type 34 = .ok (.bipush (-3), 2) := by decide +kernel
theorem dX9_type_36 : decode cX9_type 36 = .ok (.ireturn, 1) := by decide +kernel
theorem dX9_clear_0 : decode cX9_clear 0 = .ok (.aload_n 0, 1) := by decide +kernel
theorem dX9_clear_1 : decode cX9_clear 1 = .ok (.getfield 12, 3) := by decide +kernel
theorem dX9_clear_4 : decode cX9_clear 4 = .ok (.getfield 73, 3) := by decide +kernel
theorem dX9_clear_7 : decode cX9_clear 7 = .ok (.istore_n 1, 1) := by decide +kernel
theorem dX9_clear_8 : decode cX9_clear 8 = .ok (.aload_n 0, 1) := by decide +kernel
theorem dX9_clear_9 : decode cX9_clear 9 = .ok (.getfield 12, 3) := by decide +kernel
theorem dX9_clear_12 : decode cX9_clear 12 = .ok (.iconst 0, 1) := by decide +kernel
theorem dX9_clear_13 : decode cX9_clear 13 = .ok (.putfield 73, 3) := by decide +kernel
theorem dX9_clear_16 : decode cX9_clear 16 = .ok (.iload_n 1, 1) := by decide +kernel
theorem dX9_clear_17 : decode cX9_clear 17 = .ok (.ireturn, 1) := by decide +kernel
theorem dX9_window_0 : decode cX9_window 0 = .ok (.aload_n 0, 1) := by decide +kernel
theorem dX9_window_1 : decode cX9_window 1 = .ok (.getfield 12, 3) := by decide +kernel
theorem dX9_window_4 : decode cX9_window 4 = .ok (.aload_n 0, 1) := by decide +kernel
theorem dX9_window_5 : decode cX9_window 5 = .ok (.getfield 53, 3) := by decide +kernel
theorem dX9_window_8 : decode cX9_window 8 = .ok (.invokevirtual 77, 3) := by decide +kernel
theorem dX9_window_11 : decode cX9_window 11 = .ok (.istore_n 1, 1) := by decide +kernel
theorem dX9_window_12 : decode cX9_window 12 = .ok (.iload_n 1, 1) := by decide +kernel
theorem dX9_window_13 : decode cX9_window 13 = .ok (.ifCond .ge 5, 3) := by decide +kernel
theorem dX9_window_16 : decode cX9_window 16 = .ok (.iload_n 1, 1) := by decide +kernel
theorem dX9_window_17 : decode cX9_window 17 = .ok (.ireturn, 1) := by decide +kernel
theorem dX9_window_18 : decode cX9_window 18 = .ok (.aload_n 0, 1) := by decide +kernel
theorem dX9_window_19 : decode cX9_window 19 = .ok (.getfield 19, 3) := by decide +kernel
theorem dX9_window_22 : decode cX9_window 22 = .ok (.getfield 62, 3) := by decide +kernel
theorem dX9_window_25 : decode cX9_window 25 = .ok (.astore_n 2, 1) := by decide +kernel
theorem dX9_window_26 : decode cX9_window 26 = .ok (.aload_n 0, 1) := by decide +kernel
theorem dX9_window_27 : decode cX9_window 27 = .ok (.getfield 19, 3) := by decide +kernel
theorem dX9_window_30 : decode cX9_window 30 = .ok (.aload_n 0, 1) := by decide +kernel
theorem dX9_window_31 : decode cX9_window 31 = .ok (.getfield 53, 3) := by decide +kernel
theorem dX9_window_34 : decode cX9_window 34 = .ok (.putfield 62, 3) := by decide +kernel
theorem dX9_window_37 : decode cX9_window 37 = .ok (.aload_n 0, 1) := by decide +kernel
theorem dX9_window_38 : decode cX9_window 38 = .ok (.aload_n 2, 1) := by decide +kernel
theorem dX9_window_39 : decode cX9_window 39 = .ok (.putfield 53, 3) := by decide +kernel
theorem dX9_window_42 : decode cX9_window 42 = .ok (.aload_n 0, 1) := by decide +kernel
theorem dX9_window_43 : decode cX9_window 43 = .ok (.getfield 19, 3) := by decide +kernel
theorem dX9_window_46 : decode cX9_window 46 = .ok (.getfield 58, 3) := by decide +kernel
theorem dX9_window_49 : decode cX9_window 49 = .ok (.aload_n 0, 1) := by decide +kernel
theorem dX9_window_50 : decode cX9_window 50 = .ok (.getfield 19, 3) := by decide +kernel
theorem dX9_window_53 : decode cX9_window 53 = .ok (.getfield 62, 3) := by decide +kernel
theorem dX9_window_56 : decode cX9_window 56 = .ok (.invokevirtual 65, 3) := by decide +kernel
theorem dX9_window_59 : decode cX9_window 59 = .ok (.aload_n 0, 1) := by decide +kernel
theorem dX9_window_60 : decode cX9_window 60 = .ok (.iconst 0, 1) := by decide +kernel
theorem dX9_window_61 : decode cX9_window 61 = .ok (.putfield 81, 3) := by decide +kernel
theorem dX9_window_64 : decode cX9_window 64 = .ok (.aload_n 0, 1) := by decide +kernel
theorem dX9_window_65 : decode cX9_window 65 = .ok (.getfield 40, 3) := by decide +kernel
theorem dX9_window_68 : decode cX9_window 68 = .ok (.iconst 0, 1) := by decide +kernel
theorem dX9_window_69 : decode cX9_window 69 = .ok (.putfield 84, 3) := by decide +kernel
theorem dX9_window_72 : decode cX9_window 72 = .ok (.aload_n 0, 1) := by decide +kernel
theorem dX9_window_73 : decode cX9_window 73 = .ok (.getfield 12, 3) := by decide +kernel
theorem dX9_window_76 : decode cX9_window 76 = .ok (.iconst 0, 1) := by decide +kernel
theorem dX9_window_77 : decode cX9_window 77 = .ok (.putfield 73, 3) := by decide +kernel
theorem dX9_window_80 : decode cX9_window 80 = .ok (.iload_n 1, 1) := by decide +kernel
theorem dX9_window_81 : decode cX9_window 81 = .ok (.ireturn, 1) := by decide +kernel
theorem dX9_pane_0 : decode cX9_pane 0 = .ok (.aload_n 0, 1) := by decide +kernel
theorem dX9_pane_1 : decode cX9_pane 1 = .ok (.getfield 19, 3) := by decide +kernel
theorem dX9_pane_4 : decode cX9_pane 4 = .ok (.iload_n 1, 1) := by decide +kernel
theorem dX9_pane_5 : decode cX9_pane 5 = .ok (.iload_n 2, 1) := by decide +kernel
theorem dX9_pane_6 : decode cX9_pane 6 = .ok (.invokevirtual 87, 3) := by decide +kernel
theorem dX9_pane_9 : decode cX9_pane 9 = .ok (.istore 4, 2) := by decide +kernel
theorem dX9_pane_11 : decode cX9_pane 11 = .ok (.iload 4, 2) := by decide +kernel
theorem dX9_pane_13 : decode cX9_pane 13 = .ok (.iconst (-1), 1) := by decide +kernel
theorem dX9_pane_14 : decode cX9_pane 14 = .ok (.if_icmp .ne 5, 3) := by decide +kernel
theorem dX9_pane_17 : decode cX9_pane 17 = .ok (.iconst (-1), 1) := by decide +kernel
theorem dX9_pane_18 : decode cX9_pane 18 = .ok (.ireturn, 1) := by decide +kernel
theorem dX9_pane_19 : decode cX9_pane 19 = .ok (.iload_n 3, 1) := by decide +kernel
theorem dX9_pane_20 : decode cX9_pane 20 = .ok (.tableswitch 91 0 3 #[32, 46, 64, 81], 32) := by decide +kernel
theorem dX9_pane_52 : decode cX9_pane 52 = .ok (.aload_n 0, 1) := by decide +kernel
theorem dX9_pane_53 : decode cX9_pane 53 = .ok (.getfield 19, 3) := by decide +kernel
theorem dX9_pane_56 : decode cX9_pane 56 = .ok (.getfield 62, 3) := by decide +kernel
theorem dX9_pane_59 : decode cX9_pane 59 = .ok (.getfield 91, 3) := by decide +kernel
theorem dX9_pane_62 : decode cX9_pane 62 = .ok (.iload 4, 2) := by decide +kernel
theorem dX9_pane_64 : decode cX9_pane 64 = .ok (.iaload, 1) := by decide +kernel
theorem dX9_pane_65 : decode cX9_pane 65 = .ok (.ireturn, 1) := by decide +kernel
theorem dX9_pane_66 : decode cX9_pane 66 = .ok (.aload_n 0, 1) := by decide +kernel
theorem dX9_pane_67 : decode cX9_pane 67 = .ok (.getfield 19, 3) := by decide +kernel
theorem dX9_pane_70 : decode cX9_pane 70 = .ok (.iload 4, 2) := by decide +kernel
theorem dX9_pane_72 : decode cX9_pane 72 = .ok (.invokevirtual 95, 3) := by decide +kernel
theorem dX9_pane_75 : decode cX9_pane 75 = .ok (.ifCond .eq 7, 3) := by decide +kernel
theorem dX9_pane_78 : decode cX9_pane 78 = .ok (.iconst 1, 1) := by decide +kernel
theorem dX9_pane_79 : decode cX9_pane 79 = .ok (.goto 4, 3) := by decide +kernel
theorem dX9_pane_82 : decode cX9_pane 82 = .ok (.iconst 0, 1) := by decide +kernel
theorem dX9_pane_83 : decode cX9_pane 83 = .ok (.ireturn, 1) := by decide +kernel
theorem dX9_pane_84 : decode cX9_pane 84 = .ok (.aload_n 0, 1) := by decide +kernel
theorem dX9_pane_85 : decode cX9_pane 85 = .ok (.getfield 19, 3) := by decide +kernel
theorem dX9_pane_88 : decode cX9_pane 88 = .ok (.getfield 58, 3) := by decide +kernel
theorem dX9_pane_91 : decode cX9_pane 91 = .ok (.getfield 98, 3) := by decide +kernel
theorem dX9_pane_94 : decode cX9_pane 94 = .ok (.getfield 102, 3) := by decide +kernel
theorem dX9_pane_97 : decode cX9_pane 97 = .ok (.iload 4, 2) := by decide +kernel
theorem dX9_pane_99 : decode cX9_pane 99 = .ok (.iaload, 1) := by decide +kernel
theorem dX9_pane_100 : decode cX9_pane 100 = .ok (.ireturn, 1) := by decide +kernel
theorem dX9_pane_101 : decode cX9_pane 101 = .ok (.aload_n 0, 1) := by decide +kernel
theorem dX9_pane_102 : decode cX9_pane 102 = .ok (.getfield 19, 3) := by decide +kernel
theorem dX9_pane_105 : decode cX9_pane 105 = .ok (.iload 4, 2) := by decide +kernel
theorem dX9_pane_107 : decode cX9_pane 107 = .ok (.invokevirtual 107, 3) := by decide +kernel
theorem dX9_pane_110 : decode cX9_pane 110 = .ok (.ireturn, 1) := by decide +kernel
theorem dX9_pane_111 : decode cX9_pane 111 = .ok (.iconst (-1), 1) := by decide +kernel
theorem dX9_pane_112 : decode cX9_pane 112 = .ok (.ireturn, 1) := by decide +kernel
theorem dX9_sheet_0 : decode cX9_sheet 0 = .ok (.aload_n 0, 1) := by decide +kernel
theorem dX9_sheet_1 : decode cX9_sheet 1 = .ok (.iload_n 1, 1) := by decide +kernel
theorem dX9_sheet_2 : decode cX9_sheet 2 = .ok (.invokevirtual 111, 3) := by decide +kernel
theorem dX9_sheet_5 : decode cX9_sheet 5 = .ok (.ifCond .ne 5, 3) := by decide +kernel
theorem dX9_sheet_8 : decode cX9_sheet 8 = .ok (.iconst (-1), 1) := by decide +kernel
theorem dX9_sheet_9 : decode cX9_sheet 9 = .ok (.ireturn, 1) := by decide +kernel
theorem dX9_sheet_10 : decode cX9_sheet 10 = .ok (.iload_n 2, 1) := by decide +kernel
theorem dX9_sheet_11 : decode cX9_sheet 11 = .ok (.lookupswitch 49 #[(0, 25), (1, 40)], 25) := by decide +kernel
theorem dX9_sheet_36 : decode cX9_sheet 36 = .ok (.aload_n 0, 1) := by decide +kernel
theorem dX9_sheet_37 : decode cX9_sheet 37 = .ok (.getfield 19, 3) := by decide +kernel
theorem dX9_sheet_40 : decode cX9_sheet 40 = .ok (.getfield 62, 3) := by decide +kernel
theorem dX9_sheet_43 : decode cX9_sheet 43 = .ok (.getfield 114, 3) := by decide +kernel
theorem dX9_sheet_46 : decode cX9_sheet 46 = .ok (.iconst 1, 1) := by decide +kernel
theorem dX9_sheet_47 : decode cX9_sheet 47 = .ok (.iload_n 1, 1) := by decide +kernel
theorem dX9_sheet_48 : decode cX9_sheet 48 = .ok (.ishl, 1) := by decide +kernel
theorem dX9_sheet_49 : decode cX9_sheet 49 = .ok (.iaload, 1) := by decide +kernel
theorem dX9_sheet_50 : decode cX9_sheet 50 = .ok (.ireturn, 1) := by decide +kernel
theorem dX9_sheet_51 : decode cX9_sheet 51 = .ok (.aload_n 0, 1) := by decide +kernel
theorem dX9_sheet_52 : decode cX9_sheet 52 = .ok (.getfield 19, 3) := by decide +kernel
theorem dX9_sheet_55 : decode cX9_sheet 55 = .ok (.iload_n 1, 1) := by decide +kernel
theorem dX9_sheet_56 : decode cX9_sheet 56 = .ok (.invokevirtual 117, 3) := by decide +kernel
theorem dX9_sheet_59 : decode cX9_sheet 59 = .ok (.ireturn, 1) := by decide +kernel
theorem dX9_sheet_60 : decode cX9_sheet 60 = .ok (.iconst (-1), 1) := by decide +kernel
theorem dX9_sheet_61 : decode cX9_sheet 61 = .ok (.ireturn, 1) := by decide +kernel
theorem dX9_lays_0 : decode cX9_lays 0 = .ok (.aload_n 0, 1) := by decide +kernel
theorem dX9_lays_1 : decode cX9_lays 1 = .ok (.getfield 19, 3) := by decide +kernel
theorem dX9_lays_4 : decode cX9_lays 4 = .ok (.iload_n 2, 1) := by decide +kernel
theorem dX9_lays_5 : decode cX9_lays 5 = .ok (.iload_n 3, 1) := by decide +kernel
theorem dX9_lays_6 : decode cX9_lays 6 = .ok (.invokevirtual 87, 3) := by decide +kernel
theorem dX9_lays_9 : decode cX9_lays 9 = .ok (.istore 4, 2) := by decide +kernel
theorem dX9_lays_11 : decode cX9_lays 11 = .ok (.aload_n 0, 1) := by decide +kernel
theorem dX9_lays_12 : decode cX9_lays 12 = .ok (.iload_n 1, 1) := by decide +kernel
theorem dX9_lays_13 : decode cX9_lays 13 = .ok (.invokevirtual 111, 3) := by decide +kernel
theorem dX9_lays_16 : decode cX9_lays 16 = .ok (.ifCond .eq 9, 3) := by decide +kernel
theorem dX9_lays_19 : decode cX9_lays 19 = .ok (.iload 4, 2) := by decide +kernel
theorem dX9_lays_21 : decode cX9_lays 21 = .ok (.iconst (-1), 1) := by decide +kernel
theorem dX9_lays_22 : decode cX9_lays 22 = .ok (.if_icmp .ne 5, 3) := by decide +kernel
theorem dX9_lays_25 : decode cX9_lays 25 = .ok (.iconst (-1), 1) := by decide +kernel
theorem dX9_lays_26 : decode cX9_lays 26 = .ok (.ireturn, 1) := by decide +kernel
theorem dX9_lays_27 : decode cX9_lays 27 = .ok (.aload_n 0, 1) := by decide +kernel
theorem dX9_lays_28 : decode cX9_lays 28 = .ok (.getfield 19, 3) := by decide +kernel
theorem dX9_lays_31 : decode cX9_lays 31 = .ok (.iload_n 1, 1) := by decide +kernel
theorem dX9_lays_32 : decode cX9_lays 32 = .ok (.invokevirtual 117, 3) := by decide +kernel
theorem dX9_lays_35 : decode cX9_lays 35 = .ok (.bipush (-9), 2) := by decide +kernel
theorem dX9_lays_37 : decode cX9_lays 37 = .ok (.if_icmp .ne 15, 3) := by decide +kernel
theorem dX9_lays_40 : decode cX9_lays 40 = .ok (.aload_n 0, 1) := by decide +kernel
theorem dX9_lays_41 : decode cX9_lays 41 = .ok (.getfield 19, 3) := by decide +kernel
theorem dX9_lays_44 : decode cX9_lays 44 = .ok (.iload 4, 2) := by decide +kernel
theorem dX9_lays_46 : decode cX9_lays 46 = .ok (.invokevirtual 120, 3) := by decide +kernel
theorem dX9_lays_49 : decode cX9_lays 49 = .ok (.ifCond .ne 6, 3) := by decide +kernel
theorem dX9_lays_52 : decode cX9_lays 52 = .ok (.bipush (-2), 2) := by decide +kernel
theorem dX9_lays_54 : decode cX9_lays 54 = .ok (.ireturn, 1) := by decide +kernel
theorem dX9_lays_55 : decode cX9_lays 55 = .ok (.aload_n 0, 1) := by decide +kernel
theorem dX9_lays_56 : decode cX9_lays 56 = .ok (.getfield 19, 3) := by decide +kernel
theorem dX9_lays_59 : decode cX9_lays 59 = .ok (.getfield 58, 3) := by decide +kernel
theorem dX9_lays_62 : decode cX9_lays 62 = .ok (.invokevirtual 123, 3) := by decide +kernel
theorem dX9_lays_65 : decode cX9_lays 65 = .ok (.getfield 102, 3) := by decide +kernel
theorem dX9_lays_68 : decode cX9_lays 68 = .ok (.iload 4, 2) := by decide +kernel
theorem dX9_lays_70 : decode cX9_lays 70 = .ok (.dup2, 1) := by decide +kernel
theorem dX9_lays_71 : decode cX9_lays 71 = .ok (.iaload, 1) := by decide +kernel
theorem dX9_lays_72 : decode cX9_lays 72 = .ok (.iconst 1, 1) := by decide +kernel
theorem dX9_lays_73 : decode cX9_lays 73 = .ok (.iload_n 1, 1) := by decide +kernel
theorem dX9_lays_74 : decode cX9_lays 74 = .ok (.ishl, 1) := by decide +kernel
theorem dX9_lays_75 : decode cX9_lays 75 = .ok (.ior, 1) := by decide +kernel
theorem dX9_lays_76 : decode cX9_lays 76 = .ok (.iastore, 1) := by decide +kernel
theorem dX9_lays_77 : decode cX9_lays 77 = .ok (.aload_n 0, 1) := by decide +kernel
theorem dX9_lays_78 : decode cX9_lays 78 = .ok (.getfield 19, 3) := by decide +kernel
theorem dX9_lays_81 : decode cX9_lays 81 = .ok (.iload 4, 2) := by decide +kernel
theorem dX9_lays_83 : decode cX9_lays 83 = .ok (.invokevirtual 107, 3) := by decide +kernel
theorem dX9_lays_86 : decode cX9_lays 86 = .ok (.ireturn, 1) := by decide +kernel
theorem dX9_takes_0 : decode cX9_takes 0 = .ok (.aload_n 0, 1) := by decide +kernel
theorem dX9_takes_1 : decode cX9_takes 1 = .ok (.iload_n 1, 1) := by decide +kernel
theorem dX9_takes_2 : decode cX9_takes 2 = .ok (.invokevirtual 111, 3) := by decide +kernel
theorem dX9_takes_5 : decode cX9_takes 5 = .ok (.ifCond .ne 5, 3) := by decide +kernel
theorem dX9_takes_8 : decode cX9_takes 8 = .ok (.iconst (-1), 1) := by decide +kernel
theorem dX9_takes_9 : decode cX9_takes 9 = .ok (.ireturn, 1) := by decide +kernel
theorem dX9_takes_10 : decode cX9_takes 10 = .ok (.aload_n 0, 1) := by decide +kernel
theorem dX9_takes_11 : decode cX9_takes 11 = .ok (.getfield 19, 3) := by decide +kernel
theorem dX9_takes_14 : decode cX9_takes 14 = .ok (.iload_n 1, 1) := by decide +kernel
theorem dX9_takes_15 : decode cX9_takes 15 = .ok (.invokevirtual 117, 3) := by decide +kernel
theorem dX9_takes_18 : decode cX9_takes 18 = .ok (.istore_n 2, 1) := by decide +kernel
theorem dX9_takes_19 : decode cX9_takes 19 = .ok (.iload_n 2, 1) := by decide +kernel
theorem dX9_takes_20 : decode cX9_takes 20 = .ok (.bipush (-9), 2) := by decide +kernel
theorem dX9_takes_22 : decode cX9_takes 22 = .ok (.if_icmp .ne 6, 3) := by decide +kernel
theorem dX9_takes_25 : decode cX9_takes 25 = .ok (.bipush (-2), 2) := by decide +kernel
theorem dX9_takes_27 : decode cX9_takes 27 = .ok (.ireturn, 1) := by decide +kernel
theorem dX9_takes_28 : decode cX9_takes 28 = .ok (.aload_n 0, 1) := by decide +kernel
theorem dX9_takes_29 : decode cX9_takes 29 = .ok (.getfield 19, 3) := by decide +kernel
theorem dX9_takes_32 : decode cX9_takes 32 = .ok (.getfield 58, 3) := by decide +kernel
theorem dX9_takes_35 : decode cX9_takes 35 = .ok (.invokevirtual 123, 3) := by decide +kernel
theorem dX9_takes_38 : decode cX9_takes 38 = .ok (.getfield 102, 3) := by decide +kernel
theorem dX9_takes_41 : decode cX9_takes 41 = .ok (.iload_n 2, 1) := by decide +kernel
theorem dX9_takes_42 : decode cX9_takes 42 = .ok (.dup2, 1) := by decide +kernel
theorem dX9_takes_43 : decode cX9_takes 43 = .ok (.iaload, 1) := by decide +kernel
theorem dX9_takes_44 : decode cX9_takes 44 = .ok (.iconst 1, 1) := by decide +kernel
theorem dX9_takes_45 : decode cX9_takes 45 = .ok (.iload_n 1, 1) := by decide +kernel
theorem dX9_takes_46 : decode cX9_takes 46 = .ok (.ishl, 1) := by decide +kernel
theorem dX9_takes_47 : decode cX9_takes 47 = .ok (.iconst (-1), 1) := by decide +kernel
theorem dX9_takes_48 : decode cX9_takes 48 = .ok (.ixor, 1) := by decide +kernel
theorem dX9_takes_49 : decode cX9_takes 49 = .ok (.iand, 1) := by decide +kernel
theorem dX9_takes_50 : decode cX9_takes 50 = .ok (.iastore, 1) := by decide +kernel
theorem dX9_takes_51 : decode cX9_takes 51 = .ok (.iload_n 2, 1) := by decide +kernel
theorem dX9_takes_52 : decode cX9_takes 52 = .ok (.ireturn, 1) := by decide +kernel
theorem dX9_breaks_0 : decode cX9_breaks 0 = .ok (.aload_n 0, 1) := by decide +kernel
theorem dX9_breaks_1 : decode cX9_breaks 1 = .ok (.getfield 19, 3) := by decide +kernel
theorem dX9_breaks_4 : decode cX9_breaks 4 = .ok (.iload_n 1, 1) := by decide +kernel
theorem dX9_breaks_5 : decode cX9_breaks 5 = .ok (.iload_n 2, 1) := by decide +kernel
theorem dX9_breaks_6 : decode cX9_breaks 6 = .ok (.invokevirtual 87, 3) := by decide +kernel
theorem dX9_breaks_9 : decode cX9_breaks 9 = .ok (.istore_n 3, 1) := by decide +kernel
theorem dX9_breaks_10 : decode cX9_breaks 10 = .ok (.iload_n 3, 1) := by decide +kernel
theorem dX9_breaks_11 : decode cX9_breaks 11 = .ok (.iconst (-1), 1) := by decide +kernel
theorem dX9_breaks_12 : decode cX9_breaks 12 = .ok (.if_icmp .ne 5, 3) := by decide +kernel
theorem dX9_breaks_15 : decode cX9_breaks 15 = .ok (.iconst (-1), 1) := by decide +kernel
theorem dX9_breaks_16 : decode cX9_breaks 16 = .ok (.ireturn, 1) := by decide +kernel
theorem dX9_breaks_17 : decode cX9_breaks 17 = .ok (.aload_n 0, 1) := by decide +kernel
theorem dX9_breaks_18 : decode cX9_breaks 18 = .ok (.getfield 19, 3) := by decide +kernel
theorem dX9_breaks_21 : decode cX9_breaks 21 = .ok (.iload_n 3, 1) := by decide +kernel
theorem dX9_breaks_22 : decode cX9_breaks 22 = .ok (.invokevirtual 95, 3) := by decide +kernel
theorem dX9_breaks_25 : decode cX9_breaks 25 = .ok (.ifCond .eq 6, 3) := by decide +kernel
theorem dX9_breaks_28 : decode cX9_breaks 28 = .ok (.bipush (-2), 2) := by decide +kernel
theorem dX9_breaks_30 : decode cX9_breaks 30 = .ok (.ireturn, 1) := by decide +kernel
theorem dX9_breaks_31 : decode cX9_breaks 31 = .ok (.aload_n 0, 1) := by decide +kernel
theorem dX9_breaks_32 : decode cX9_breaks 32 = .ok (.getfield 19, 3) := by decide +kernel
theorem dX9_breaks_35 : decode cX9_breaks 35 = .ok (.getfield 58, 3) := by decide +kernel
theorem dX9_breaks_38 : decode cX9_breaks 38 = .ok (.invokevirtual 123, 3) := by decide +kernel
theorem dX9_breaks_41 : decode cX9_breaks 41 = .ok (.astore 4, 2) := by decide +kernel
theorem dX9_breaks_43 : decode cX9_breaks 43 = .ok (.aload 4, 2) := by decide +kernel
theorem dX9_breaks_45 : decode cX9_breaks 45 = .ok (.getfield 102, 3) := by decide +kernel
theorem dX9_breaks_48 : decode cX9_breaks 48 = .ok (.iload_n 3, 1) := by decide +kernel
theorem dX9_breaks_49 : decode cX9_breaks 49 = .ok (.iaload, 1) := by decide +kernel
theorem dX9_breaks_50 : decode cX9_breaks 50 = .ok (.invokestatic 127, 3) := by decide +kernel
theorem dX9_breaks_53 : decode cX9_breaks 53 = .ok (.istore 5, 2) := by decide +kernel
theorem dX9_breaks_55 : decode cX9_breaks 55 = .ok (.aload 4, 2) := by decide +kernel
theorem dX9_breaks_57 : decode cX9_breaks 57 = .ok (.getfield 102, 3) := by decide +kernel
theorem dX9_breaks_60 : decode cX9_breaks 60 = .ok (.iload_n 3, 1) := by decide +kernel
theorem dX9_breaks_61 : decode cX9_breaks 61 = .ok (.iconst 0, 1) := by decide +kernel
theorem dX9_breaks_62 : decode cX9_breaks 62 = .ok (.iastore, 1) := by decide +kernel
theorem dX9_breaks_63 : decode cX9_breaks 63 = .ok (.aload 4, 2) := by decide +kernel
theorem dX9_breaks_65 : decode cX9_breaks 65 = .ok (.dup, 1) := by decide +kernel
theorem dX9_breaks_66 : decode cX9_breaks 66 = .ok (.getfield 132, 3) := by decide +kernel
theorem dX9_breaks_69 : decode cX9_breaks 69 = .ok (.iconst 1, 1) := by decide +kernel
theorem dX9_breaks_70 : decode cX9_breaks 70 = .ok (.iload_n 3, 1) := by decide +kernel
theorem dX9_breaks_71 : decode cX9_breaks 71 = .ok (.ishl, 1) := by decide +kernel
theorem dX9_breaks_72 : decode cX9_breaks 72 = .ok (.ior, 1) := by decide +kernel
theorem dX9_breaks_73 : decode cX9_breaks 73 = .ok (.putfield 132, 3) := by decide +kernel
theorem dX9_breaks_76 : decode cX9_breaks 76 = .ok (.iload 5, 2) := by decide +kernel
theorem dX9_breaks_78 : decode cX9_breaks 78 = .ok (.ireturn, 1) := by decide +kernel
theorem dX9_mends_0 : decode cX9_mends 0 = .ok (.aload_n 0, 1) := by decide +kernel
theorem dX9_mends_1 : decode cX9_mends 1 = .ok (.getfield 19, 3) := by decide +kernel
theorem dX9_mends_4 : decode cX9_mends 4 = .ok (.iload_n 1, 1) := by decide +kernel
theorem dX9_mends_5 : decode cX9_mends 5 = .ok (.iload_n 2, 1) := by decide +kernel
theorem dX9_mends_6 : decode cX9_mends 6 = .ok (.invokevirtual 87, 3) := by decide +kernel
theorem dX9_mends_9 : decode cX9_mends 9 = .ok (.istore_n 3, 1) := by decide +kernel
theorem dX9_mends_10 : decode cX9_mends 10 = .ok (.iload_n 3, 1) := by decide +kernel
theorem dX9_mends_11 : decode cX9_mends 11 = .ok (.iconst (-1), 1) := by decide +kernel
theorem dX9_mends_12 : decode cX9_mends 12 = .ok (.if_icmp .ne 5, 3) := by decide +kernel
theorem dX9_mends_15 : decode cX9_mends 15 = .ok (.iconst (-1), 1) := by decide +kernel
theorem dX9_mends_16 : decode cX9_mends 16 = .ok (.ireturn, 1) := by decide +kernel
theorem dX9_mends_17 : decode cX9_mends 17 = .ok (.aload_n 0, 1) := by decide +kernel
theorem dX9_mends_18 : decode cX9_mends 18 = .ok (.getfield 19, 3) := by decide +kernel
theorem dX9_mends_21 : decode cX9_mends 21 = .ok (.iload_n 3, 1) := by decide +kernel
theorem dX9_mends_22 : decode cX9_mends 22 = .ok (.invokevirtual 95, 3) := by decide +kernel
theorem dX9_mends_25 : decode cX9_mends 25 = .ok (.ifCond .ne 6, 3) := by decide +kernel
theorem dX9_mends_28 : decode cX9_mends 28 = .ok (.bipush (-2), 2) := by decide +kernel
theorem dX9_mends_30 : decode cX9_mends 30 = .ok (.ireturn, 1) := by decide +kernel
theorem dX9_mends_31 : decode cX9_mends 31 = .ok (.aload_n 0, 1) := by decide +kernel
theorem dX9_mends_32 : decode cX9_mends 32 = .ok (.getfield 19, 3) := by decide +kernel
theorem dX9_mends_35 : decode cX9_mends 35 = .ok (.getfield 58, 3) := by decide +kernel
theorem dX9_mends_38 : decode cX9_mends 38 = .ok (.invokevirtual 123, 3) := by decide +kernel
theorem dX9_mends_41 : decode cX9_mends 41 = .ok (.dup, 1) := by decide +kernel
theorem dX9_mends_42 : decode cX9_mends 42 = .ok (.getfield 132, 3) := by decide +kernel
theorem dX9_mends_45 : decode cX9_mends 45 = .ok (.iconst 1, 1) := by decide +kernel
theorem dX9_mends_46 : decode cX9_mends 46 = .ok (.iload_n 3, 1) := by decide +kernel
theorem dX9_mends_47 : decode cX9_mends 47 = .ok (.ishl, 1) := by decide +kernel
theorem dX9_mends_48 : decode cX9_mends 48 = .ok (.iconst (-1), 1) := by decide +kernel
theorem dX9_mends_49 : decode cX9_mends 49 = .ok (.ixor, 1) := by decide +kernel
theorem dX9_mends_50 : decode cX9_mends 50 = .ok (.iand, 1) := by decide +kernel
theorem dX9_mends_51 : decode cX9_mends 51 = .ok (.putfield 132, 3) := by decide +kernel
theorem dX9_mends_54 : decode cX9_mends 54 = .ok (.aload_n 0, 1) := by decide +kernel
theorem dX9_mends_55 : decode cX9_mends 55 = .ok (.getfield 19, 3) := by decide +kernel
theorem dX9_mends_58 : decode cX9_mends 58 = .ok (.getfield 62, 3) := by decide +kernel
theorem dX9_mends_61 : decode cX9_mends 61 = .ok (.getfield 91, 3) := by decide +kernel
theorem dX9_mends_64 : decode cX9_mends 64 = .ok (.iload_n 3, 1) := by decide +kernel
theorem dX9_mends_65 : decode cX9_mends 65 = .ok (.iaload, 1) := by decide +kernel
theorem dX9_mends_66 : decode cX9_mends 66 = .ok (.ireturn, 1) := by decide +kernel
theorem dX9_moves_0 : decode cX9_moves 0 = .ok (.iload_n 1, 1) := by decide +kernel
theorem dX9_moves_1 : decode cX9_moves 1 = .ok (.iconst 1, 1) := by decide +kernel
theorem dX9_moves_2 : decode cX9_moves 2 = .ok (.if_icmp .lt 18, 3) := by decide +kernel
theorem dX9_moves_5 : decode cX9_moves 5 = .ok (.iload_n 1, 1) := by decide +kernel
theorem dX9_moves_6 : decode cX9_moves 6 = .ok (.bipush 12, 2) := by decide +kernel
theorem dX9_moves_8 : decode cX9_moves 8 = .ok (.if_icmp .gt 12, 3) := by decide +kernel
theorem dX9_moves_11 : decode cX9_moves 11 = .ok (.iload_n 2, 1) := by decide +kernel
theorem dX9_moves_12 : decode cX9_moves 12 = .ok (.ifCond .lt 8, 3) := by decide +kernel
theorem dX9_moves_15 : decode cX9_moves 15 = .ok (.iload_n 2, 1) := by decide +kernel
theorem dX9_moves_16 : decode cX9_moves 16 = .ok (.iconst 3, 1) := by decide +kernel
theorem dX9_moves_17 : decode cX9_moves 17 = .ok (.if_icmp .le 5, 3) := by decide +kernel
theorem dX9_moves_20 : decode cX9_moves 20 = .ok (.iconst (-1), 1) := by decide +kernel
theorem dX9_moves_21 : decode cX9_moves 21 = .ok (.ireturn, 1) := by decide +kernel
theorem dX9_moves_22 : decode cX9_moves 22 = .ok (.aload_n 0, 1) := by decide +kernel
theorem dX9_moves_23 : decode cX9_moves 23 = .ok (.getfield 19, 3) := by decide +kernel
theorem dX9_moves_26 : decode cX9_moves 26 = .ok (.getfield 58, 3) := by decide +kernel
theorem dX9_moves_29 : decode cX9_moves 29 = .ok (.getfield 98, 3) := by decide +kernel
theorem dX9_moves_32 : decode cX9_moves 32 = .ok (.getfield 135, 3) := by decide +kernel
theorem dX9_moves_35 : decode cX9_moves 35 = .ok (.iload_n 1, 1) := by decide +kernel
theorem dX9_moves_36 : decode cX9_moves 36 = .ok (.if_icmp .ne 23, 3) := by decide +kernel
theorem dX9_moves_39 : decode cX9_moves 39 = .ok (.aload_n 0, 1) := by decide +kernel
theorem dX9_moves_40 : decode cX9_moves 40 = .ok (.getfield 19, 3) := by decide +kernel
theorem dX9_moves_43 : decode cX9_moves 43 = .ok (.getfield 58, 3) := by decide +kernel
theorem dX9_moves_46 : decode cX9_moves 46 = .ok (.getfield 98, 3) := by decide +kernel
theorem dX9_moves_49 : decode cX9_moves 49 = .ok (.getfield 138, 3) := by decide +kernel
theorem dX9_moves_52 : decode cX9_moves 52 = .ok (.iload_n 2, 1) := by decide +kernel
theorem dX9_moves_53 : decode cX9_moves 53 = .ok (.if_icmp .ne 6, 3) := by decide +kernel
theorem dX9_moves_56 : decode cX9_moves 56 = .ok (.bipush (-2), 2) := by decide +kernel
theorem dX9_moves_58 : decode cX9_moves 58 = .ok (.ireturn, 1) := by decide +kernel
theorem dX9_moves_59 : decode cX9_moves 59 = .ok (.aload_n 0, 1) := by decide +kernel
theorem dX9_moves_60 : decode cX9_moves 60 = .ok (.getfield 19, 3) := by decide +kernel
theorem dX9_moves_63 : decode cX9_moves 63 = .ok (.getfield 58, 3) := by decide +kernel
theorem dX9_moves_66 : decode cX9_moves 66 = .ok (.invokevirtual 123, 3) := by decide +kernel
theorem dX9_moves_69 : decode cX9_moves 69 = .ok (.astore_n 3, 1) := by decide +kernel
theorem dX9_moves_70 : decode cX9_moves 70 = .ok (.aload_n 3, 1) := by decide +kernel
theorem dX9_moves_71 : decode cX9_moves 71 = .ok (.iload_n 1, 1) := by decide +kernel
theorem dX9_moves_72 : decode cX9_moves 72 = .ok (.putfield 135, 3) := by decide +kernel
theorem dX9_moves_75 : decode cX9_moves 75 = .ok (.aload_n 3, 1) := by decide +kernel
theorem dX9_moves_76 : decode cX9_moves 76 = .ok (.iload_n 2, 1) := by decide +kernel
theorem dX9_moves_77 : decode cX9_moves 77 = .ok (.putfield 138, 3) := by decide +kernel
theorem dX9_moves_80 : decode cX9_moves 80 = .ok (.aload_n 0, 1) := by decide +kernel
theorem dX9_moves_81 : decode cX9_moves 81 = .ok (.getfield 19, 3) := by decide +kernel
theorem dX9_moves_84 : decode cX9_moves 84 = .ok (.invokevirtual 141, 3) := by decide +kernel
theorem dX9_moves_87 : decode cX9_moves 87 = .ok (.ireturn, 1) := by decide +kernel
theorem dX9_undo_0 : decode cX9_undo 0 = .ok (.aload_n 0, 1) := by decide +kernel
theorem dX9_undo_1 : decode cX9_undo 1 = .ok (.getfield 19, 3) := by decide +kernel
theorem dX9_undo_4 : decode cX9_undo 4 = .ok (.getfield 58, 3) := by decide +kernel
theorem dX9_undo_7 : decode cX9_undo 7 = .ok (.getfield 145, 3) := by decide +kernel
