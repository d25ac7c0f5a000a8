theorem dX8_end_0 : decode cX8_end 0 = .ok (.iload_n 1, 1) := by decide +kernel
theorem dX8_end_1 : decode cX8_end 1 = .ok (.i2l, 1) := by decide +kernel
theorem dX8_end_2 : decode cX8_end 2 = .ok (.lconst 0, 1) := by decide +kernel
theorem dX8_end_3 : decode cX8_end 3 = .ok (.aload_n 0, 1) := by decide +kernel
theorem dX8_end_4 : decode cX8_end 4 = .ok (.getfield 57, 3) := by decide +kernel
theorem dX8_end_7 : decode cX8_end 7 = .ok (.i2l, 1) := by decide +kernel
theorem dX8_end_8 : decode cX8_end 8 = .ok (.invokestatic 60, 3) := by decide +kernel
theorem dX8_end_11 : decode cX8_end 11 = .ok (.ifCond .ne 5, 3) := by decide +kernel
theorem dX8_end_16 : decode cX8_end 16 = .ok (.aload_n 0, 1) := by decide +kernel
theorem dX8_end_17 : decode cX8_end 17 = .ok (.iload_n 1, 1) := by decide +kernel
theorem dX8_end_18 : decode cX8_end 18 = .ok (.putfield 57, 3) := by decide +kernel
theorem dX8_end_21 : decode cX8_end 21 = .ok (.iconst 1, 1) := by decide +kernel
theorem dX8_end_22 : decode cX8_end 22 = .ok (.ireturn, 1) := by decide +kernel
theorem dX8_end_14 : decode cX8_end 14 = .ok (.iconst 0, 1) := by decide +kernel
theorem dX8_end_15 : decode cX8_end 15 = .ok (.ireturn, 1) := by decide +kernel
theorem dX8_site_0 : decode cX8_site 0 = .ok (.aload_n 0, 1) := by decide +kernel
theorem dX8_site_1 : decode cX8_site 1 = .ok (.aload_n 0, 1) := by decide +kernel
theorem dX8_site_2 : decode cX8_site 2 = .ok (.iload_n 1, 1) := by decide +kernel
theorem dX8_site_3 : decode cX8_site 3 = .ok (.invokevirtual 278, 3) := by decide +kernel
theorem dX8_site_6 : decode cX8_site 6 = .ok (.ifCond .eq 19, 3) := by decide +kernel
theorem dX8_site_25 : decode cX8_site 25 = .ok (.iconst 1, 1) := by decide +kernel
theorem dX8_site_26 : decode cX8_site 26 = .ok (.putfield 49, 3) := by decide +kernel
theorem dX8_site_29 : decode cX8_site 29 = .ok (.aload_n 0, 1) := by decide +kernel
theorem dX8_site_30 : decode cX8_site 30 = .ok (.getfield 49, 3) := by decide +kernel
theorem dX8_site_33 : decode cX8_site 33 = .ok (.iconst 1, 1) := by decide +kernel
theorem dX8_site_34 : decode cX8_site 34 = .ok (.if_icmp .ne 5, 3) := by decide +kernel
theorem dX8_site_37 : decode cX8_site 37 = .ok (.iconst 0, 1) := by decide +kernel
theorem dX8_site_38 : decode cX8_site 38 = .ok (.ireturn, 1) := by decide +kernel
theorem dX8_here_0 : decode cX8_here 0 = .ok (.aload_n 0, 1) := by decide +kernel
theorem dX8_here_1 : decode cX8_here 1 = .ok (.getfield 64, 3) := by decide +kernel
theorem dX8_here_4 : decode cX8_here 4 = .ok (.aload_n 0, 1) := by decide +kernel
theorem dX8_here_5 : decode cX8_here 5 = .ok (.getfield 57, 3) := by decide +kernel
theorem dX8_here_8 : decode cX8_here 8 = .ok (.if_icmp .ge 15, 3) := by decide +kernel
theorem dX8_here_23 : decode cX8_here 23 = .ok (.iconst (-1), 1) := by decide +kernel
theorem dX8_here_24 : decode cX8_here 24 = .ok (.ireturn, 1) := by decide +kernel
theorem dX8_next_0 : decode cX8_next 0 = .ok (.aload_n 0, 1) := by decide +kernel
theorem dX8_next_1 : decode cX8_next 1 = .ok (.invokevirtual 71, 3) := by decide +kernel
theorem dX8_next_4 : decode cX8_next 4 = .ok (.bipush 32, 2) := by decide +kernel
theorem dX8_next_6 : decode cX8_next 6 = .ok (.if_icmp .ne 16, 3) := by decide +kernel
theorem dX8_next_22 : decode cX8_next 22 = .ok (.aload_n 0, 1) := by decide +kernel
theorem dX8_next_23 : decode cX8_next 23 = .ok (.aload_n 0, 1) := by decide +kernel
theorem dX8_next_24 : decode cX8_next 24 = .ok (.getfield 64, 3) := by decide +kernel
theorem dX8_next_27 : decode cX8_next 27 = .ok (.putfield 94, 3) := by decide +kernel
theorem dX8_next_30 : decode cX8_next 30 = .ok (.aload_n 0, 1) := by decide +kernel
theorem dX8_next_31 : decode cX8_next 31 = .ok (.invokevirtual 71, 3) := by decide +kernel
theorem dX8_next_34 : decode cX8_next 34 = .ok (.istore_n 1, 1) := by decide +kernel
theorem dX8_next_35 : decode cX8_next 35 = .ok (.iload_n 1, 1) := by decide +kernel
theorem dX8_next_36 : decode cX8_next 36 = .ok (.iconst (-1), 1) := by decide +kernel
theorem dX8_next_37 : decode cX8_next 37 = .ok (.if_icmp .ne 11, 3) := by decide +kernel
theorem dX8_next_40 : decode cX8_next 40 = .ok (.aload_n 0, 1) := by decide +kernel
theorem dX8_next_41 : decode cX8_next 41 = .ok (.iconst 0, 1) := by decide +kernel
theorem dX8_next_42 : decode cX8_next 42 = .ok (.putfield 83, 3) := by decide +kernel
theorem dX8_next_45 : decode cX8_next 45 = .ok (.goto 72, 3) := by decide +kernel
theorem dX8_next_117 : decode cX8_next 117 = .ok (.return_, 1) := by decide +kernel
theorem dX8_begins_0 : decode cX8_begins 0 = .ok (.aload_n 0, 1) := by decide +kernel
theorem dX8_begins_1 : decode cX8_begins 1 = .ok (.iconst 0, 1) := by decide +kernel
theorem dX8_begins_2 : decode cX8_begins 2 = .ok (.putfield 64, 3) := by decide +kernel
theorem dX8_begins_5 : decode cX8_begins 5 = .ok (.aload_n 0, 1) := by decide +kernel
theorem dX8_begins_6 : decode cX8_begins 6 = .ok (.iconst (-1), 1) := by decide +kernel
theorem dX8_begins_7 : decode cX8_begins 7 = .ok (.putfield 103, 3) := by decide +kernel
theorem dX8_begins_10 : decode cX8_begins 10 = .ok (.aload_n 0, 1) := by decide +kernel
theorem dX8_begins_11 : decode cX8_begins 11 = .ok (.invokevirtual 109, 3) := by decide +kernel
theorem dX8_begins_14 : decode cX8_begins 14 = .ok (.return_, 1) := by decide +kernel
theorem dX8_bad_0 : decode cX8_bad 0 = .ok (.aload_n 0, 1) := by decide +kernel
theorem dX8_bad_1 : decode cX8_bad 1 = .ok (.aload_n 0, 1) := by decide +kernel
theorem dX8_bad_2 : decode cX8_bad 2 = .ok (.getfield 103, 3) := by decide +kernel
theorem dX8_bad_5 : decode cX8_bad 5 = .ok (.iconst (-1), 1) := by decide +kernel
theorem dX8_bad_6 : decode cX8_bad 6 = .ok (.if_icmp .ne 10, 3) := by decide +kernel
theorem dX8_bad_9 : decode cX8_bad 9 = .ok (.aload_n 0, 1) := by decide +kernel
theorem dX8_bad_10 : decode cX8_bad 10 = .ok (.getfield 94, 3) := by decide +kernel
theorem dX8_bad_13 : decode cX8_bad 13 = .ok (.goto 7, 3) := by decide +kernel
theorem dX8_bad_20 : decode cX8_bad 20 = .ok (.putfield 103, 3) := by decide +kernel
theorem dX8_bad_23 : decode cX8_bad 23 = .ok (.return_, 1) := by decide +kernel
theorem dX8_isWord_0 : decode cX8_isWord 0 = .ok (.aload_n 0, 1) := by decide +kernel
theorem dX8_isWord_1 : decode cX8_isWord 1 = .ok (.getfield 83, 3) := by decide +kernel
theorem dX8_isWord_4 : decode cX8_isWord 4 = .ok (.iconst 1, 1) := by decide +kernel
theorem dX8_isWord_5 : decode cX8_isWord 5 = .ok (.if_icmp .ne 16, 3) := by decide +kernel
theorem dX8_isWord_21 : decode cX8_isWord 21 = .ok (.iconst 0, 1) := by decide +kernel
theorem dX8_isWord_22 : decode cX8_isWord 22 = .ok (.ireturn, 1) := by decide +kernel
theorem dX8_clause_0 : decode cX8_clause 0 = .ok (.aload_n 0, 1) := by decide +kernel
theorem dX8_clause_1 : decode cX8_clause 1 = .ok (.getstatic 130, 3) := by decide +kernel
theorem dX8_clause_4 : decode cX8_clause 4 = .ok (.invokevirtual 116, 3) := by decide +kernel
theorem dX8_clause_7 : decode cX8_clause 7 = .ok (.ifCond .eq 7, 3) := by decide +kernel
theorem dX8_clause_14 : decode cX8_clause 14 = .ok (.aload_n 0, 1) := by decide +kernel
theorem dX8_clause_15 : decode cX8_clause 15 = .ok (.getstatic 133, 3) := by decide +kernel
theorem dX8_clause_18 : decode cX8_clause 18 = .ok (.invokevirtual 116, 3) := by decide +kernel
theorem dX8_clause_21 : decode cX8_clause 21 = .ok (.ifCond .eq 7, 3) := by decide +kernel
theorem dX8_clause_28 : decode cX8_clause 28 = .ok (.aload_n 0, 1) := by decide +kernel
theorem dX8_clause_29 : decode cX8_clause 29 = .ok (.getstatic 136, 3) := by decide +kernel
theorem dX8_clause_32 : decode cX8_clause 32 = .ok (.invokevirtual 116, 3) := by decide +kernel
theorem dX8_clause_35 : decode cX8_clause 35 = .ok (.ifCond .eq 7, 3) := by decide +kernel
theorem dX8_clause_42 : decode cX8_clause 42 = .ok (.aload_n 0, 1) := by decide +kernel
theorem dX8_clause_43 : decode cX8_clause 43 = .ok (.getstatic 139, 3) := by decide +kernel
theorem dX8_clause_46 : decode cX8_clause 46 = .ok (.invokevirtual 116, 3) := by decide +kernel
theorem dX8_clause_49 : decode cX8_clause 49 = .ok (.ifCond .eq 7, 3) := by decide +kernel
theorem dX8_clause_56 : decode cX8_clause 56 = .ok (.iconst (-1), 1) := by decide +kernel
theorem dX8_clause_57 : decode cX8_clause 57 = .ok (.istore_n 2, 1) := by decide +kernel
theorem dX8_clause_58 : decode cX8_clause 58 = .ok (.iload_n 2, 1) := by decide +kernel
theorem dX8_clause_59 : decode cX8_clause 59 = .ok (.iconst (-1), 1) := by decide +kernel
theorem dX8_clause_60 : decode cX8_clause 60 = .ok (.if_icmp .eq 30, 3) := by decide +kernel
theorem dX8_clause_90 : decode cX8_clause 90 = .ok (.aload_n 0, 1) := by decide +kernel
theorem dX8_clause_91 : decode cX8_clause 91 = .ok (.invokevirtual 106, 3) := by decide +kernel
theorem dX8_clause_94 : decode cX8_clause 94 = .ok (.iload_n 1, 1) := by decide +kernel
theorem dX8_clause_95 : decode cX8_clause 95 = .ok (.ireturn, 1) := by decide +kernel
theorem dX8_readWatch_0 : decode cX8_readWatch 0 = .ok (.aload_n 0, 1) := by decide +kernel
theorem dX8_readWatch_1 : decode cX8_readWatch 1 = .ok (.invokevirtual 163, 3) := by decide +kernel
theorem dX8_readWatch_4 : decode cX8_readWatch 4 = .ok (.aload_n 0, 1) := by decide +kernel
theorem dX8_readWatch_5 : decode cX8_readWatch 5 = .ok (.iconst 0, 1) := by decide +kernel
theorem dX8_readWatch_6 : decode cX8_readWatch 6 = .ok (.putfield 149, 3) := by decide +kernel
theorem dX8_readWatch_9 : decode cX8_readWatch 9 = .ok (.aload_n 0, 1) := by decide +kernel
theorem dX8_readWatch_10 : decode cX8_readWatch 10 = .ok (.sipush 1000, 3) := by decide +kernel
theorem dX8_readWatch_13 : decode cX8_readWatch 13 = .ok (.putfield 154, 3) := by decide +kernel
theorem dX8_readWatch_16 : decode cX8_readWatch 16 = .ok (.aload_n 0, 1) := by decide +kernel
theorem dX8_readWatch_17 : decode cX8_readWatch 17 = .ok (.bipush 100, 2) := by decide +kernel
theorem dX8_readWatch_19 : decode cX8_readWatch 19 = .ok (.putfield 157, 3) := by decide +kernel
theorem dX8_readWatch_22 : decode cX8_readWatch 22 = .ok (.aload_n 0, 1) := by decide +kernel
theorem dX8_readWatch_23 : decode cX8_readWatch 23 = .ok (.iconst 0, 1) := by decide +kernel
theorem dX8_readWatch_24 : decode cX8_readWatch 24 = .ok (.putfield 120, 3) := by decide +kernel
theorem dX8_readWatch_27 : decode cX8_readWatch 27 = .ok (.iconst 0, 1) := by decide +kernel
theorem dX8_readWatch_28 : decode cX8_readWatch 28 = .ok (.istore_n 1, 1) := by decide +kernel
theorem dX8_readWatch_29 : decode cX8_readWatch 29 = .ok (.iconst 1, 1) := by decide +kernel
theorem dX8_readWatch_30 : decode cX8_readWatch 30 = .ok (.istore_n 2, 1) := by decide +kernel
theorem dX8_readWatch_31 : decode cX8_readWatch 31 = .ok (.iload_n 2, 1) := by decide +kernel
theorem dX8_readWatch_32 : decode cX8_readWatch 32 = .ok (.ifCond .eq 42, 3) := by decide +kernel
theorem dX8_readWatch_35 : decode cX8_readWatch 35 = .ok (.aload_n 0, 1) := by decide +kernel
theorem dX8_readWatch_36 : decode cX8_readWatch 36 = .ok (.iload_n 1, 1) := by decide +kernel
theorem dX8_readWatch_37 : decode cX8_readWatch 37 = .ok (.invokevirtual 166, 3) := by decide +kernel
theorem dX8_readWatch_40 : decode cX8_readWatch 40 = .ok (.istore_n 1, 1) := by decide +kernel
theorem dX8_readWatch_41 : decode cX8_readWatch 41 = .ok (.aload_n 0, 1) := by decide +kernel
theorem dX8_readWatch_42 : decode cX8_readWatch 42 = .ok (.getfield 103, 3) := by decide +kernel
theorem dX8_readWatch_45 : decode cX8_readWatch 45 = .ok (.iconst (-1), 1) := by decide +kernel
theorem dX8_readWatch_46 : decode cX8_readWatch 46 = .ok (.if_icmp .ne 15, 3) := by decide +kernel
theorem dX8_readWatch_61 : decode cX8_readWatch 61 = .ok (.iconst 0, 1) := by decide +kernel
theorem dX8_readWatch_62 : decode cX8_readWatch 62 = .ok (.istore_n 2, 1) := by decide +kernel
theorem dX8_readWatch_63 : decode cX8_readWatch 63 = .ok (.iload_n 2, 1) := by decide +kernel
theorem dX8_readWatch_64 : decode cX8_readWatch 64 = .ok (.ifCond .eq (-33), 3) := by decide +kernel
theorem dX8_readWatch_74 : decode cX8_readWatch 74 = .ok (.aload_n 0, 1) := by decide +kernel
theorem dX8_readWatch_75 : decode cX8_readWatch 75 = .ok (.getfield 103, 3) := by decide +kernel
theorem dX8_readWatch_78 : decode cX8_readWatch 78 = .ok (.iconst (-1), 1) := by decide +kernel
theorem dX8_readWatch_79 : decode cX8_readWatch 79 = .ok (.if_icmp .ne 22, 3) := by decide +kernel
theorem dX8_readWatch_101 : decode cX8_readWatch 101 = .ok (.aload_n 0, 1) := by decide +kernel
theorem dX8_readWatch_102 : decode cX8_readWatch 102 = .ok (.getfield 103, 3) := by decide +kernel
theorem dX8_readWatch_105 : decode cX8_readWatch 105 = .ok (.ireturn, 1) := by decide +kernel
theorem dX8_readStep_0 : decode cX8_readStep 0 = .ok (.aload_n 0, 1) := by decide +kernel
theorem dX8_readStep_1 : decode cX8_readStep 1 = .ok (.getstatic 170, 3) := by decide +kernel
theorem dX8_readStep_4 : decode cX8_readStep 4 = .ok (.invokevirtual 116, 3) := by decide +kernel
theorem dX8_readStep_7 : decode cX8_readStep 7 = .ok (.ifCond .eq 7, 3) := by decide +kernel
theorem dX8_readStep_14 : decode cX8_readStep 14 = .ok (.aload_n 0, 1) := by decide +kernel
theorem dX8_readStep_15 : decode cX8_readStep 15 = .ok (.getstatic 173, 3) := by decide +kernel
theorem dX8_readStep_18 : decode cX8_readStep 18 = .ok (.invokevirtual 116, 3) := by decide +kernel
theorem dX8_readStep_21 : decode cX8_readStep 21 = .ok (.ifCond .eq 7, 3) := by decide +kernel
theorem dX8_readStep_28 : decode cX8_readStep 28 = .ok (.aload_n 0, 1) := by decide +kernel
theorem dX8_readStep_29 : decode cX8_readStep 29 = .ok (.getstatic 133, 3) := by decide +kernel
theorem dX8_readStep_32 : decode cX8_readStep 32 = .ok (.invokevirtual 116, 3) := by decide +kernel
theorem dX8_readStep_35 : decode cX8_readStep 35 = .ok (.ifCond .eq 7, 3) := by decide +kernel
theorem dX8_readStep_42 : decode cX8_readStep 42 = .ok (.aload_n 0, 1) := by decide +kernel
theorem dX8_readStep_43 : decode cX8_readStep 43 = .ok (.getstatic 130, 3) := by decide +kernel
theorem dX8_readStep_46 : decode cX8_readStep 46 = .ok (.invokevirtual 116, 3) := by decide +kernel
theorem dX8_readStep_49 : decode cX8_readStep 49 = .ok (.ifCond .eq 7, 3) := by decide +kernel
theorem dX8_readStep_56 : decode cX8_readStep 56 = .ok (.aload_n 0, 1) := by decide +kernel
theorem dX8_readStep_57 : decode cX8_readStep 57 = .ok (.getstatic 176, 3) := by decide +kernel
theorem dX8_readStep_60 : decode cX8_readStep 60 = .ok (.invokevirtual 116, 3) := by decide +kernel
theorem dX8_readStep_63 : decode cX8_readStep 63 = .ok (.ifCond .eq 7, 3) := by decide +kernel
theorem dX8_readStep_70 : decode cX8_readStep 70 = .ok (.aload_n 0, 1) := by decide +kernel
theorem dX8_readStep_71 : decode cX8_readStep 71 = .ok (.getstatic 136, 3) := by decide +kernel
theorem dX8_readStep_74 : decode cX8_readStep 74 = .ok (.invokevirtual 116, 3) := by decide +kernel
theorem dX8_readStep_77 : decode cX8_readStep 77 = .ok (.ifCond .eq 7, 3) := by decide +kernel
theorem dX8_readStep_84 : decode cX8_readStep 84 = .ok (.aload_n 0, 1) := by decide +kernel
theorem dX8_readStep_85 : decode cX8_readStep 85 = .ok (.getstatic 179, 3) := by decide +kernel
theorem dX8_readStep_88 : decode cX8_readStep 88 = .ok (.invokevirtual 116, 3) := by decide +kernel
theorem dX8_readStep_91 : decode cX8_readStep 91 = .ok (.ifCond .eq 8, 3) := by decide +kernel
theorem dX8_readStep_99 : decode cX8_readStep 99 = .ok (.iconst (-1), 1) := by decide +kernel
theorem dX8_readStep_100 : decode cX8_readStep 100 = .ok (.istore_n 2, 1) := by decide +kernel
theorem dX8_readStep_101 : decode cX8_readStep 101 = .ok (.iload_n 2, 1) := by decide +kernel
theorem dX8_readStep_102 : decode cX8_readStep 102 = .ok (.iconst (-1), 1) := by decide +kernel
theorem dX8_readStep_103 : decode cX8_readStep 103 = .ok (.if_icmp .ne 8, 3) := by decide +kernel
theorem dX8_readStep_106 : decode cX8_readStep 106 = .ok (.aload_n 0, 1) := by decide +kernel
theorem dX8_readStep_107 : decode cX8_readStep 107 = .ok (.invokevirtual 106, 3) := by decide +kernel
theorem dX8_readStep_110 : decode cX8_readStep 110 = .ok (.return_, 1) := by decide +kernel
theorem dX8_readScript_0 : decode cX8_readScript 0 = .ok (.aload_n 0, 1) := by decide +kernel
theorem dX8_readScript_1 : decode cX8_readScript 1 = .ok (.invokevirtual 163, 3) := by decide +kernel
theorem dX8_readScript_4 : decode cX8_readScript 4 = .ok (.aload_n 0, 1) := by decide +kernel
theorem dX8_readScript_5 : decode cX8_readScript 5 = .ok (.getfield 19, 3) := by decide +kernel
theorem dX8_readScript_8 : decode cX8_readScript 8 = .ok (.iload_n 1, 1) := by decide +kernel
theorem dX8_readScript_9 : decode cX8_readScript 9 = .ok (.iconst 0, 1) := by decide +kernel
theorem dX8_readScript_10 : decode cX8_readScript 10 = .ok (.iastore, 1) := by decide +kernel
theorem dX8_readScript_11 : decode cX8_readScript 11 = .ok (.iconst 1, 1) := by decide +kernel
theorem dX8_readScript_12 : decode cX8_readScript 12 = .ok (.istore_n 2, 1) := by decide +kernel
theorem dX8_readScript_13 : decode cX8_readScript 13 = .ok (.iload_n 2, 1) := by decide +kernel
theorem dX8_readScript_14 : decode cX8_readScript 14 = .ok (.ifCond .eq 74, 3) := by decide +kernel
theorem dX8_readScript_17 : decode cX8_readScript 17 = .ok (.aload_n 0, 1) := by decide +kernel
theorem dX8_readScript_18 : decode cX8_readScript 18 = .ok (.iconst 4, 1) := by decide +kernel
theorem dX8_readScript_19 : decode cX8_readScript 19 = .ok (.bipush 12, 2) := by decide +kernel
theorem dX8_readScript_21 : decode cX8_readScript 21 = .ok (.iload_n 1, 1) := by decide +kernel
theorem dX8_readScript_22 : decode cX8_readScript 22 = .ok (.imul, 1) := by decide +kernel
theorem dX8_readScript_23 : decode cX8_readScript 23 = .ok (.aload_n 0, 1) := by decide +kernel
theorem dX8_readScript_24 : decode cX8_readScript 24 = .ok (.getfield 19, 3) := by decide +kernel
theorem dX8_readScript_27 : decode cX8_readScript 27 = .ok (.iload_n 1, 1) := by decide +kernel
theorem dX8_readScript_28 : decode cX8_readScript 28 = .ok (.iaload, 1) := by decide +kernel
theorem dX8_readScript_29 : decode cX8_readScript 29 = .ok (.iadd, 1) := by decide +kernel
theorem dX8_readScript_30 : decode cX8_readScript 30 = .ok (.imul, 1) := by decide +kernel
theorem dX8_readScript_31 : decode cX8_readScript 31 = .ok (.invokevirtual 186, 3) := by decide +kernel
theorem dX8_readScript_34 : decode cX8_readScript 34 = .ok (.aload_n 0, 1) := by decide +kernel
theorem dX8_readScript_35 : decode cX8_readScript 35 = .ok (.getfield 19, 3) := by decide +kernel
theorem dX8_readScript_38 : decode cX8_readScript 38 = .ok (.iload_n 1, 1) := by decide +kernel
theorem dX8_readScript_39 : decode cX8_readScript 39 = .ok (.dup2, 1) := by decide +kernel
theorem dX8_readScript_40 : decode cX8_readScript 40 = .ok (.iaload, 1) := by decide +kernel
theorem dX8_readScript_41 : decode cX8_readScript 41 = .ok (.iconst 1, 1) := by decide +kernel
theorem dX8_readScript_42 : decode cX8_readScript 42 = .ok (.iadd, 1) := by decide +kernel
theorem dX8_readScript_43 : decode cX8_readScript 43 = .ok (.iastore, 1) := by decide +kernel
theorem dX8_readScript_44 : decode cX8_readScript 44 = .ok (.aload_n 0, 1) := by decide +kernel
theorem dX8_readScript_45 : decode cX8_readScript 45 = .ok (.getfield 103, 3) := by decide +kernel
theorem dX8_readScript_48 : decode cX8_readScript 48 = .ok (.iconst (-1), 1) := by decide +kernel
theorem dX8_readScript_49 : decode cX8_readScript 49 = .ok (.if_icmp .ne 26, 3) := by decide +kernel
theorem dX8_readScript_75 : decode cX8_readScript 75 = .ok (.iconst 0, 1) := by decide +kernel
theorem dX8_readScript_76 : decode cX8_readScript 76 = .ok (.istore_n 2, 1) := by decide +kernel
theorem dX8_readScript_77 : decode cX8_readScript 77 = .ok (.iload_n 2, 1) := by decide +kernel
theorem dX8_readScript_78 : decode cX8_readScript 78 = .ok (.ifCond .eq (-65), 3) := by decide +kernel
theorem dX8_readScript_88 : decode cX8_readScript 88 = .ok (.aload_n 0, 1) := by decide +kernel
theorem dX8_readScript_89 : decode cX8_readScript 89 = .ok (.getfield 103, 3) := by decide +kernel
theorem dX8_readScript_92 : decode cX8_readScript 92 = .ok (.iconst (-1), 1) := by decide +kernel
theorem dX8_readScript_93 : decode cX8_readScript 93 = .ok (.if_icmp .ne 14, 3) := by decide +kernel
theorem dX8_readScript_107 : decode cX8_readScript 107 = .ok (.aload_n 0, 1) := by decide +kernel
theorem dX8_readScript_108 : decode cX8_readScript 108 = .ok (.getfield 103, 3) := by decide +kernel
theorem dX8_readScript_111 : decode cX8_readScript 111 = .ok (.ireturn, 1) := by decide +kernel
theorem dX8_fault_0 : decode cX8_fault 0 = .ok (.iload_n 1, 1) := by decide +kernel
theorem dX8_fault_1 : decode cX8_fault 1 = .ok (.ifCond .ne 10, 3) := by decide +kernel
theorem dX8_fault_11 : decode cX8_fault 11 = .ok (.iload_n 1, 1) := by decide +kernel
theorem dX8_fault_12 : decode cX8_fault 12 = .ok (.iconst 1, 1) := by decide +kernel
theorem dX8_fault_13 : decode cX8_fault 13 = .ok (.if_icmp .ne 11, 3) := by decide +kernel
theorem dX8_fault_24 : decode cX8_fault 24 = .ok (.bipush (-2), 2) := by decide +kernel
theorem dX8_fault_26 : decode cX8_fault 26 = .ok (.ireturn, 1) := by decide +kernel
theorem dX8_fault_16 : decode cX8_fault 16 = .ok (.aload_n 0, 1) := by decide +kernel
theorem dX8_fault_17 : decode cX8_fault 17 = .ok (.iconst 4, 1) := by decide +kernel
theorem dX8_fault_18 : decode cX8_fault 18 = .ok (.invokevirtual 193, 3) := by decide +kernel
theorem dX8_fault_21 : decode cX8_fault 21 = .ok (.goto 5, 3) := by decide +kernel
theorem dX8_fault_4 : decode cX8_fault 4 = .ok (.aload_n 0, 1) := by decide +kernel
theorem dX8_fault_5 : decode cX8_fault 5 = .ok (.invokevirtual 190, 3) := by decide +kernel
theorem dX8_fault_8 : decode cX8_fault 8 = .ok (.goto 18, 3) := by decide +kernel
theorem dX8_text_0 : decode cX8_text 0 = .ok (.iload_n 1, 1) := by decide +kernel
theorem dX8_text_1 : decode cX8_text 1 = .ok (.ifCond .ne 21, 3) := by decide +kernel
theorem dX8_text_22 : decode cX8_text 22 = .ok (.iload_n 1, 1) := by decide +kernel
theorem dX8_text_23 : decode cX8_text 23 = .ok (.iconst 1, 1) := by decide +kernel
theorem dX8_text_24 : decode cX8_text 24 = .ok (.if_icmp .ne 45, 3) := by decide +kernel
theorem dX8_text_69 : decode cX8_text 69 = .ok (.iconst (-1), 1) := by decide +kernel
theorem dX8_text_70 : decode cX8_text 70 = .ok (.ireturn, 1) := by decide +kernel
theorem dX8_text_27 : decode cX8_text 27 = .ok (.aload_n 0, 1) := by decide +kernel
theorem dX8_text_28 : decode cX8_text 28 = .ok (.getfield 215, 3) := by decide +kernel
theorem dX8_text_31 : decode cX8_text 31 = .ok (.iconst 4, 1) := by decide +kernel
theorem dX8_text_32 : decode cX8_text 32 = .ok (.if_icmp .ge 37, 3) := by decide +kernel
theorem dX8_text_35 : decode cX8_text 35 = .ok (.aload_n 0, 1) := by decide +kernel
theorem dX8_text_36 : decode cX8_text 36 = .ok (.aload_n 0, 1) := by decide +kernel
theorem dX8_text_37 : decode cX8_text 37 = .ok (.getfield 215, 3) := by decide +kernel
theorem dX8_text_40 : decode cX8_text 40 = .ok (.invokevirtual 193, 3) := by decide +kernel
theorem dX8_text_43 : decode cX8_text 43 = .ok (.iconst (-1), 1) := by decide +kernel
theorem dX8_text_44 : decode cX8_text 44 = .ok (.if_icmp .ne 25, 3) := by decide +kernel
theorem dX8_text_4 : decode cX8_text 4 = .ok (.aload_n 0, 1) := by decide +kernel
theorem dX8_text_5 : decode cX8_text 5 = .ok (.invokevirtual 190, 3) := by decide +kernel
theorem dX8_text_8 : decode cX8_text 8 = .ok (.iconst (-1), 1) := by decide +kernel
theorem dX8_text_9 : decode cX8_text 9 = .ok (.if_icmp .ne 13, 3) := by decide +kernel
def v_d_end : List Cond := .code yX8_end cX8_end 2 (some .boolean) :: ([.fieldLink RX8 57 "HushWatchModel" "taped" "I", .methodLink RX8 60 yX8_in, .static yX8_in, .initialized RX8] ++ (wsX80 ++ (v_d_in ++ ([]))))
theorem gw_d_end : v_d_end.all goodWord = true := by decide +kernel
theorem i_d_end_X8 : ∀ w ∈ wsX80, w ∈ v_d_end := fun _ h => List.mem_cons_of_mem _ (List.mem_append_right _ (List.mem_append_left _ h))
theorem g_d_end_d_in_60 : GoodIn v_d_end (va_wsS RX8 60 yX8_in v_d_in) := goodIn_app (goodIn_of _ (by decide +kernel)) (goodIn_sub (fun _ h => List.mem_cons_of_mem _ (List.mem_append_right _ (List.mem_append_right _ (List.mem_append_left _ h)))) gw_d_in)
set_option maxHeartbeats 4000000 in
set_option maxRecDepth 100000 in
theorem d_end (l : Launch) (E : EE) (sz : Nat) (mo m_tape m_readPlace m_script m_scriptLong m_now m_refused m_shareX m_shareY m_askedRow m_kept m_aside m_spelled m_image : Nat) (p0 : Int32) : Met l yX8_end v_d_end ({ frames := 1, cells := 0, slots := 0, locals := 25 }) (va_Pc [.ref mo, .int p0] (pW E sz [(mo, .inr (9, [.int 0, .ref m_tape, .int 0, .int 0, .int 0, .int 0, .int 0, .int 0, .long 0, .int 0, .int 0, .int 0, .int 0, .ref m_readPlace, .ref m_script, .ref m_scriptLong, .int 0, .ref m_now, .ref m_refused, .int 0, .ref m_shareX, .ref m_shareY, .int 0, .int 0, .ref m_askedRow, .int 0, .ref m_kept, .int 0, .long 0, .ref m_aside, .int 0, .int 0, .ref m_spelled, .int 0, .ref m_image, .int 0]))])) (va_Qi (fun r (_u : Unit) => r = endv p0) (fun (_u : Unit) tt => va_P E.1 vwCl [] tt.heap ∧ va_D (va_A [(mo, .inr (9, [.int 0, .ref m_tape, .int 0, .int 0, .int 0, .int 0, .int 0, .int 0, .long 0, .int 0, .int 0, .int 0, .int 0, .ref m_readPlace, .ref m_script, .ref m_scriptLong, .int 0, .ref m_now, .ref m_refused, .int 0, .ref m_shareX, .ref m_shareY, .int 0, .int 0, .ref m_askedRow, .int 0, .ref m_kept, .int 0, .long 0, .ref m_aside, .int 0, .int 0, .ref m_spelled, .int 0, .ref m_image, .int 0]))] sz) []) (va_A [(mo, .inr (9, [.int 0, .ref m_tape, .int 0, .int 0, .int 0, .int 0, .int 0, .int 0, .long 0, .int 0, .int 0, .int 0, .int 0, .ref m_readPlace, .ref m_script, .ref m_scriptLong, .int 0, .ref m_now, .ref m_refused, .int 0, .ref m_shareX, .ref m_shareY, .int 0, .int 0, .ref m_askedRow, .int 0, .ref m_kept, .int 0, .long 0, .ref m_aside, .int 0, .int 0, .ref m_spelled, .int 0, .ref m_image, .int 0]))] sz)) 0 0 (va_A [(mo, .inr (9, [.int 0, .ref m_tape, .int 0, .int 0, .int 0, .int 0, .int 0, .int 0, .long 0, .int 0, .int 0, .int 0, .int 0, .ref m_readPlace, .ref m_script, .ref m_scriptLong, .int 0, .ref m_now, .ref m_refused, .int 0, .ref m_shareX, .ref m_shareY, .int 0, .int 0, .ref m_askedRow, .int 0, .ref m_kept, .int 0, .long 0, .ref m_aside, .int 0, .int 0, .ref m_spelled, .int 0, .ref m_image, .int 0]))] sz) := by
  refine Met.ofW (cc := cX8_end) (maxL := 2) (ret := (some .boolean)) (by decide) rfl ?_
  intro p e s m args below meth c s₁ B hml hv
  obtain ⟨rfl, hsz, ⟨hK, hN⟩, hP, hD0⟩ := hv
  have hx := B.exec
  have hb := B.bytes
  have hr := B.returns
  have hts := atoms_spec (ws := v_d_end) B.pre
  have hown : s.vm.findClass RX8 = some m.cls := findClass_of_methodNamed B.named
  have hlocks := B.notSynchronized
  subst hsz
  have hD := hD0.self (sz := s.heap.size)
  generalize hAe : va_A [(mo, .inr (9, [.int 0, .ref m_tape, .int 0, .int 0, .int 0, .int 0, .int 0, .int 0, .long 0, .int 0, .int 0, .int 0, .int 0, .ref m_readPlace, .ref m_script, .ref m_scriptLong, .int 0, .ref m_now, .ref m_refused, .int 0, .ref m_shareX, .ref m_shareY, .int 0, .int 0, .ref m_askedRow, .int 0, .ref m_kept, .int 0, .long 0, .ref m_aside, .int 0, .int 0, .ref m_spelled, .int 0, .ref m_image, .int 0]))] s.heap.size = A at hD ⊢
  have hA : ∀ q : Nat, s.heap.size ≤ q → A q := fun q h => by rw [← hAe]; exact Or.inr h
  have hS : va_S A s.heap s.heap [] := va_S.rf
  have hP : va_P E.1 vwCl [(mo, .inr (9, [.int 0, .ref m_tape, .int 0, .int 0, .int 0, .int 0, .int 0, .int 0, .long 0, .int 0, .int 0, .int 0, .int 0, .ref m_readPlace, .ref m_script, .ref m_scriptLong, .int 0, .ref m_now, .ref m_refused, .int 0, .ref m_shareX, .ref m_shareY, .int 0, .int 0, .ref m_askedRow, .int 0, .ref m_kept, .int 0, .long 0, .ref m_aside, .int 0, .int 0, .ref m_spelled, .int 0, .ref m_image, .int 0]))] s.heap := hP
  have hl := lv_entry ([.ref mo, .int p0]) (n := 2) (Nat.le_of_ble_eq_true rfl)
  rw [lg_entry_eq]
  generalize (lg_sl ([.ref mo, .int p0]) ++ List.replicate (2 - (lg_sl ([.ref mo, .int p0])).length) Slot.unset).toArray = ls at hl ⊢
  have hl : lv_has ls 2 [(0, .ref mo), (1, .int p0)] := hl
  refine lv_iload_n hx hb dX8_end_0 rfl (lv_at hl 1 rfl) ?_
  refine lv_i2l (v := p0.toInt64) hx hb dX8_end_1 rfl ?_
  refine lv_lconst (v := 0) hx hb dX8_end_2 (by decide) ?_
  refine lv_aload_n hx hb dX8_end_3 rfl (lv_at hl 0 rfl) ?_
  refine va_get (D := E.1) (ci := 9) (v := .int 0) (C := RX8) (T := TX8) (N := 36) hx hb hts i_d_end_X8 hown hK hP 0 rfl rfl 2 (by decide) (hts (.fieldLink RX8 57 "HushWatchModel" "taped" "I") (List.mem_of_getElem? (i := 1) rfl)) (fun _ h9 => h9) rfl dX8_end_4 ?_
  refine lv_i2l (v := 0) hx hb dX8_end_7 (by decide) ?_
  have hPc : va_P E.1 vwCl [] s.heap := fun k q h => by simp at h
  refine pc_i (va_runS (As := [.long p0.toInt64, .long 0, .long 0]) (rest := []) ⟨hx, hb, hml, hown, hts⟩ (d_in l E p0.toInt64 0 0) (va_cwS 3 hts g_d_end_d_in_60 rfl rfl rfl (by decide +kernel) ⟨Nat.le_of_ble_eq_true rfl, Nat.le_of_ble_eq_true rfl⟩) ⟨pP.blind, (pP.pre ⟨hK, hN⟩ hPc)⟩ rfl rfl hl.1 rfl (lv_room (Nat.le_of_ble_eq_true rfl)) dX8_end_8 ⟨Nat.le_of_ble_eq_true rfl, Nat.le_of_ble_eq_true rfl⟩) (fun r_1 hr_1 => ?_)
  rcases Classical.em (0 ≤ p0.toInt64 ∧ p0.toInt64 ≤ 0) with k_2 | k_2
  ·
    obtain rfl : r_1 = 1 := hr_1.trans (if_pos k_2)
    refine lv_if_ne (tgt := 16) hx hb dX8_end_11 (by decide) (fun _ => ?_) (fun q => absurd q (by decide))
    refine lv_aload_n hx hb dX8_end_16 rfl (lv_at hl 0 rfl) ?_
    refine lv_iload_n hx hb dX8_end_17 rfl (lv_at hl 1 rfl) ?_
    refine va_put (D := E.1) (ci := 9) (v := .int p0) (ty := .int) (C := RX8) (T := TX8) (N := 36) hx hb hts i_d_end_X8 tyX8 tyX8_ok nmX8 hown hK hP hD hS 0 rfl rfl 2 (by decide) (hts (.fieldLink RX8 57 "HushWatchModel" "taped" "I") (List.mem_of_getElem? (i := 1) rfl)) (fun _ h9 => h9) rfl (by decide +kernel) rfl rfl (Nat.le_of_ble_eq_true rfl) dX8_end_18 (fun H locs hP hD hS => ?_)
    have hP : va_P E.1 vwCl [(mo, .inr (9, [.int 0, .ref m_tape, .int p0, .int 0, .int 0, .int 0, .int 0, .int 0, .long 0, .int 0, .int 0, .int 0, .int 0, .ref m_readPlace, .ref m_script, .ref m_scriptLong, .int 0, .ref m_now, .ref m_refused, .int 0, .ref m_shareX, .ref m_shareY, .int 0, .int 0, .ref m_askedRow, .int 0, .ref m_kept, .int 0, .long 0, .ref m_aside, .int 0, .int 0, .ref m_spelled, .int 0, .ref m_image, .int 0]))] H := hP
    have hD : va_D A [(mo, .inr (9, [.int 0, .ref m_tape, .int p0, .int 0, .int 0, .int 0, .int 0, .int 0, .long 0, .int 0, .int 0, .int 0, .int 0, .ref m_readPlace, .ref m_script, .ref m_scriptLong, .int 0, .ref m_now, .ref m_refused, .int 0, .ref m_shareX, .ref m_shareY, .int 0, .int 0, .ref m_askedRow, .int 0, .ref m_kept, .int 0, .long 0, .ref m_aside, .int 0, .int 0, .ref m_spelled, .int 0, .ref m_image, .int 0]))] := hD
    refine lv_iconst (v := 1) hx hb dX8_end_21 (by decide) ?_
    have hP9 : va_P E.1 vwCl [] H := fun k q h => by simp at h
    have hD9 : va_D A [] := ⟨fun i j p q h => by simp at h, fun k q h => by simp at h⟩
    exact W.zret (v := 1) hx hb hr rfl (fun tt ht hW => ⟨⟨_, (), rfl, (by have u0 : (0 : Int64).toInt = 0 := (by decide); simp only [Int32.lt_iff_toInt_lt, Int32.le_iff_toInt_le, ge_iff_le, gt_iff_lt, ne_eq, ← Int32.toInt_inj, Int64.le_iff_toInt_le, Int64.lt_iff_toInt_lt, Int32.toInt_toInt64, u0] at k_2; unfold endv; rw [if_pos (by omega)]), by rw [ht]; exact hP9, hD9⟩, hS.F ht⟩) hS.2.2 dX8_end_22
  ·
    obtain rfl : r_1 = 0 := hr_1.trans (if_neg k_2)
    refine lv_if_ne (tgt := 16) hx hb dX8_end_11 (by decide) (fun q => absurd (by decide) q) (fun _ => ?_)
    refine lv_iconst (v := 0) hx hb dX8_end_14 (by decide) ?_
    have hP9 : va_P E.1 vwCl [] s.heap := fun k q h => by simp at h
    have hD9 : va_D A [] := ⟨fun i j p q h => by simp at h, fun k q h => by simp at h⟩
    exact W.zret (v := 0) hx hb hr rfl (fun tt ht hW => ⟨⟨_, (), rfl, (by have u0 : (0 : Int64).toInt = 0 := (by decide); simp only [Int32.lt_iff_toInt_lt, Int32.le_iff_toInt_le, ge_iff_le, gt_iff_lt, ne_eq, ← Int32.toInt_inj, Int64.le_iff_toInt_le, Int64.lt_iff_toInt_lt, Int32.toInt_toInt64, u0] at k_2; unfold endv; rw [if_neg (by omega)]), by rw [ht]; exact hP9, hD9⟩, hS.F ht⟩) hS.2.2 dX8_end_15

def v_d_site : List Cond := .code yX8_site cX8_site 3 (some .int) :: ([.fieldLink RX8 49 "HushWatchModel" "thrown" "I", .methodLink RX8 278 yX8_isSite, .instanceMethod yX8_isSite, .selects RX8 yX8_isSite yX8_isSite, .initialized RX8] ++ (v_d_isSite ++ (wsX80 ++ ([]))))
theorem gw_d_site : v_d_site.all goodWord = true := by decide +kernel
theorem i_d_site_X8 : ∀ w ∈ wsX80, w ∈ v_d_site := fun _ h => List.mem_cons_of_mem _ (List.mem_append_right _ (List.mem_append_right _ (List.mem_append_left _ h)))
theorem g_d_site_d_isSite_278 : GoodIn v_d_site (wsV RX8 278 RX8 yX8_isSite v_d_isSite) := goodIn_app (goodIn_of _ (by decide +kernel)) (goodIn_sub (fun _ h => List.mem_cons_of_mem _ (List.mem_append_right _ (List.mem_append_left _ h))) gw_d_isSite)
set_option maxHeartbeats 4000000 in
set_option maxRecDepth 100000 in
theorem d_site (l : Launch) (E : EE) (sz : Nat) (mo m_tape m_readPlace m_script m_scriptLong m_now m_refused m_shareX m_shareY m_askedRow m_kept m_aside m_spelled m_image : Nat) (p0 p1 : Int32) : Met l yX8_site v_d_site ({ frames := 2, cells := 0, slots := 0, locals := 46 }) (va_Pc [.ref mo, .int p0, .int p1] (pW E sz [(mo, .inr (9, [.int 0, .ref m_tape, .int 0, .int 0, .int 0, .int 0, .int 0, .int 0, .long 0, .int 0, .int 0, .int 0, .int 0, .ref m_readPlace, .ref m_script, .ref m_scriptLong, .int 0, .ref m_now, .ref m_refused, .int 0, .ref m_shareX, .ref m_shareY, .int 0, .int 0, .ref m_askedRow, .int 0, .ref m_kept, .int 0, .long 0, .ref m_aside, .int 0, .int 0, .ref m_spelled, .int 0, .ref m_image, .int 0]))])) (va_Qi (fun r (_u : Unit) => r = 0) (fun (_u : Unit) tt => va_P E.1 vwCl [(mo, .inr (9, [.int 1, .ref m_tape, .int 0, .int 0, .int 0, .int 0, .int 0, .int 0, .long 0, .int 0, .int 0, .int 0, .int 0, .ref m_readPlace, .ref m_script, .ref m_scriptLong, .int 0, .ref m_now, .ref m_refused, .int 0, .ref m_shareX, .ref m_shareY, .int 0, .int 0, .ref m_askedRow, .int 0, .ref m_kept, .int 0, .long 0, .ref m_aside, .int 0, .int 0, .ref m_spelled, .int 0, .ref m_image, .int 0]))] tt.heap ∧ va_D (va_A [(mo, .inr (9, [.int 0, .ref m_tape, .int 0, .int 0, .int 0, .int 0, .int 0, .int 0, .long 0, .int 0, .int 0, .int 0, .int 0, .ref m_readPlace, .ref m_script, .ref m_scriptLong, .int 0, .ref m_now, .ref m_refused, .int 0, .ref m_shareX, .ref m_shareY, .int 0, .int 0, .ref m_askedRow, .int 0, .ref m_kept, .int 0, .long 0, .ref m_aside, .int 0, .int 0, .ref m_spelled, .int 0, .ref m_image, .int 0]))] sz) [(mo, .inr (9, [.int 1, .ref m_tape, .int 0, .int 0, .int 0, .int 0, .int 0, .int 0, .long 0, .int 0, .int 0, .int 0, .int 0, .ref m_readPlace, .ref m_script, .ref m_scriptLong, .int 0, .ref m_now, .ref m_refused, .int 0, .ref m_shareX, .ref m_shareY, .int 0, .int 0, .ref m_askedRow, .int 0, .ref m_kept, .int 0, .long 0, .ref m_aside, .int 0, .int 0, .ref m_spelled, .int 0, .ref m_image, .int 0]))]) (va_A [(mo, .inr (9, [.int 0, .ref m_tape, .int 0, .int 0, .int 0, .int 0, .int 0, .int 0, .long 0, .int 0, .int 0, .int 0, .int 0, .ref m_readPlace, .ref m_script, .ref m_scriptLong, .int 0, .ref m_now, .ref m_refused, .int 0, .ref m_shareX, .ref m_shareY, .int 0, .int 0, .ref m_askedRow, .int 0, .ref m_kept, .int 0, .long 0, .ref m_aside, .int 0, .int 0, .ref m_spelled, .int 0, .ref m_image, .int 0]))] sz)) 0 0 (va_A [(mo, .inr (9, [.int 0, .ref m_tape, .int 0, .int 0, .int 0, .int 0, .int 0, .int 0, .long 0, .int 0, .int 0, .int 0, .int 0, .ref m_readPlace, .ref m_script, .ref m_scriptLong, .int 0, .ref m_now, .ref m_refused, .int 0, .ref m_shareX, .ref m_shareY, .int 0, .int 0, .ref m_askedRow, .int 0, .ref m_kept, .int 0, .long 0, .ref m_aside, .int 0, .int 0, .ref m_spelled, .int 0, .ref m_image, .int 0]))] sz) := by
  refine Met.ofW (cc := cX8_site) (maxL := 3) (ret := (some .int)) (by decide) rfl ?_
  intro p e s m args below meth c s₁ B hml hv
  obtain ⟨rfl, hsz, ⟨hK, hN⟩, hP, hD0⟩ := hv
  have hx := B.exec
  have hb := B.bytes
  have hr := B.returns
  have hts := atoms_spec (ws := v_d_site) B.pre
  have hown : s.vm.findClass RX8 = some m.cls := findClass_of_methodNamed B.named
  have hlocks := B.notSynchronized
  subst hsz
  have hD := hD0.self (sz := s.heap.size)
  generalize hAe : va_A [(mo, .inr (9, [.int 0, .ref m_tape, .int 0, .int 0, .int 0, .int 0, .int 0, .int 0, .long 0, .int 0, .int 0, .int 0, .int 0, .ref m_readPlace, .ref m_script, .ref m_scriptLong, .int 0, .ref m_now, .ref m_refused, .int 0, .ref m_shareX, .ref m_shareY, .int 0, .int 0, .ref m_askedRow, .int 0, .ref m_kept, .int 0, .long 0, .ref m_aside, .int 0, .int 0, .ref m_spelled, .int 0, .ref m_image, .int 0]))] s.heap.size = A at hD ⊢
  have hA : ∀ q : Nat, s.heap.size ≤ q → A q := fun q h => by rw [← hAe]; exact Or.inr h
  have hS : va_S A s.heap s.heap [] := va_S.rf
  have hP : va_P E.1 vwCl [(mo, .inr (9, [.int 0, .ref m_tape, .int 0, .int 0, .int 0, .int 0, .int 0, .int 0, .long 0, .int 0, .int 0, .int 0, .int 0, .ref m_readPlace, .ref m_script, .ref m_scriptLong, .int 0, .ref m_now, .ref m_refused, .int 0, .ref m_shareX, .ref m_shareY, .int 0, .int 0, .ref m_askedRow, .int 0, .ref m_kept, .int 0, .long 0, .ref m_aside, .int 0, .int 0, .ref m_spelled, .int 0, .ref m_image, .int 0]))] s.heap := hP
  have hl := lv_entry ([.ref mo, .int p0, .int p1]) (n := 3) (Nat.le_of_ble_eq_true rfl)
  rw [lg_entry_eq]
  generalize (lg_sl ([.ref mo, .int p0, .int p1]) ++ List.replicate (3 - (lg_sl ([.ref mo, .int p0, .int p1])).length) Slot.unset).toArray = ls at hl ⊢
  have hl : lv_has ls 3 [(0, .ref mo), (1, .int p0), (2, .int p1)] := hl
  refine lv_aload_n hx hb dX8_site_0 rfl (lv_at hl 0 rfl) ?_
  refine lv_aload_n hx hb dX8_site_1 rfl (lv_at hl 0 rfl) ?_
  refine lv_iload_n hx hb dX8_site_2 rfl (lv_at hl 1 rfl) ?_
  have hPc := hP.sub (ws' := [(mo, .inr (9, [.int 0, .ref m_tape, .int 0, .int 0, .int 0, .int 0, .int 0, .int 0, .long 0, .int 0, .int 0, .int 0, .int 0, .ref m_readPlace, .ref m_script, .ref m_scriptLong, .int 0, .ref m_now, .ref m_refused, .int 0, .ref m_shareX, .ref m_shareY, .int 0, .int 0, .ref m_askedRow, .int 0, .ref m_kept, .int 0, .long 0, .ref m_aside, .int 0, .int 0, .ref m_spelled, .int 0, .ref m_image, .int 0]))]) [0] rfl
  refine pc_i (va_runV (As := [.int p0]) (rest := [.ref mo]) ⟨hx, hb, hml, hown, hts⟩ (d_isSite l E mo m_tape m_readPlace m_script m_scriptLong m_now m_refused m_shareX m_shareY m_askedRow m_kept m_aside m_spelled m_image p0) (cwV 1 hts g_d_site_d_isSite_278 rfl rfl rfl (by decide +kernel) ⟨Nat.le_of_ble_eq_true rfl, Nat.le_of_ble_eq_true rfl⟩) ⟨pP.blind, va_recv hK hPc (ci := 9) (q0 := 0) rfl rfl, (pP.pre ⟨hK, hN⟩ hPc)⟩ rfl rfl hl.1 rfl (lv_room (Nat.le_of_ble_eq_true rfl)) dX8_site_3 ⟨Nat.le_of_ble_eq_true rfl, Nat.le_of_ble_eq_true rfl⟩) (fun r_1 hr_1 => ?_)
  obtain rfl : r_1 = 0 := hr_1
  refine lv_if_eq (tgt := 25) hx hb dX8_site_6 (by decide) (fun _ => ?_) (fun q => absurd (by decide) q)
  refine lv_iconst (v := 1) hx hb dX8_site_25 (by decide) ?_
  refine va_put (D := E.1) (ci := 9) (v := .int 1) (ty := .int) (C := RX8) (T := TX8) (N := 36) hx hb hts i_d_site_X8 tyX8 tyX8_ok nmX8 hown hK hP hD hS 0 rfl rfl 0 (by decide) (hts (.fieldLink RX8 49 "HushWatchModel" "thrown" "I") (List.mem_of_getElem? (i := 1) rfl)) (fun _ h9 => h9) rfl (by decide +kernel) rfl rfl (Nat.le_of_ble_eq_true rfl) dX8_site_26 (fun H locs hP hD hS => ?_)
  have hP : va_P E.1 vwCl [(mo, .inr (9, [.int 1, .ref m_tape, .int 0, .int 0, .int 0, .int 0, .int 0, .int 0, .long 0, .int 0, .int 0, .int 0, .int 0, .ref m_readPlace, .ref m_script, .ref m_scriptLong, .int 0, .ref m_now, .ref m_refused, .int 0, .ref m_shareX, .ref m_shareY, .int 0, .int 0, .ref m_askedRow, .int 0, .ref m_kept, .int 0, .long 0, .ref m_aside, .int 0, .int 0, .ref m_spelled, .int 0, .ref m_image, .int 0]))] H := hP
  have hD : va_D A [(mo, .inr (9, [.int 1, .ref m_tape, .int 0, .int 0, .int 0, .int 0, .int 0, .int 0, .long 0, .int 0, .int 0, .int 0, .int 0, .ref m_readPlace, .ref m_script, .ref m_scriptLong, .int 0, .ref m_now, .ref m_refused, .int 0, .ref m_shareX, .ref m_shareY, .int 0, .int 0, .ref m_askedRow, .int 0, .ref m_kept, .int 0, .long 0, .ref m_aside, .int 0, .int 0, .ref m_spelled, .int 0, .ref m_image, .int 0]))] := hD
  refine lv_aload_n hx hb dX8_site_29 rfl (lv_at hl 0 rfl) ?_
  refine va_get (D := E.1) (ci := 9) (v := .int 1) (C := RX8) (T := TX8) (N := 36) hx hb hts i_d_site_X8 hown hK hP 0 rfl rfl 0 (by decide) (hts (.fieldLink RX8 49 "HushWatchModel" "thrown" "I") (List.mem_of_getElem? (i := 1) rfl)) (fun _ h9 => h9) rfl dX8_site_30 ?_
  refine lv_iconst (v := 1) hx hb dX8_site_33 (by decide) ?_
  refine lv_icmp_ne (tgt := 39) hx hb dX8_site_34 (by decide) (fun q => absurd (by decide) q) (fun _ => ?_)
  refine lv_iconst (v := 0) hx hb dX8_site_37 (by decide) ?_
  have hP9 := hP.sub (ws' := [(mo, .inr (9, [.int 1, .ref m_tape, .int 0, .int 0, .int 0, .int 0, .int 0, .int 0, .long 0, .int 0, .int 0, .int 0, .int 0, .ref m_readPlace, .ref m_script, .ref m_scriptLong, .int 0, .ref m_now, .ref m_refused, .int 0, .ref m_shareX, .ref m_shareY, .int 0, .int 0, .ref m_askedRow, .int 0, .ref m_kept, .int 0, .long 0, .ref m_aside, .int 0, .int 0, .ref m_spelled, .int 0, .ref m_image, .int 0]))]) [0] rfl
  have hD9 := hD.sub (ws' := [(mo, .inr (9, [.int 1, .ref m_tape, .int 0, .int 0, .int 0, .int 0, .int 0, .int 0, .long 0, .int 0, .int 0, .int 0, .int 0, .ref m_readPlace, .ref m_script, .ref m_scriptLong, .int 0, .ref m_now, .ref m_refused, .int 0, .ref m_shareX, .ref m_shareY, .int 0, .int 0, .ref m_askedRow, .int 0, .ref m_kept, .int 0, .long 0, .ref m_aside, .int 0, .int 0, .ref m_spelled, .int 0, .ref m_image, .int 0]))]) [0] (by decide) rfl
  exact W.iret (v := 0) hx hb hr (fun tt ht hW => ⟨⟨_, (), rfl, rfl, by rw [ht]; exact hP9, hD9⟩, hS.F ht⟩) hS.2.2 dX8_site_38

def v_d_here : List Cond := .code yX8_here cX8_here 1 (some .int) :: ([.fieldLink RX8 64 "HushWatchModel" "at" "I", .fieldLink RX8 57 "HushWatchModel" "taped" "I"] ++ (wsX80 ++ ([])))
theorem gw_d_here : v_d_here.all goodWord = true := by decide +kernel
theorem i_d_here_X8 : ∀ w ∈ wsX80, w ∈ v_d_here := fun _ h => List.mem_cons_of_mem _ (List.mem_append_right _ (List.mem_append_left _ h))
set_option maxHeartbeats 4000000 in
set_option maxRecDepth 100000 in
theorem d_here (l : Launch) (E : EE) (mo m_tape m_readPlace m_script m_scriptLong m_now m_refused m_shareX m_shareY m_askedRow m_kept m_aside m_spelled m_image : Nat) (wr : Int32) : Met l yX8_here v_d_here ({ frames := 0, cells := 0, slots := 0, locals := 0 }) (va_Pc [.ref mo] (pP E [(mo, .inr (9, [.int 0, .ref m_tape, .int 0, .int 0, .int 0, .int 0, .int 0, .int wr, .long 0, .int 0, .int 0, .int 0, .int 0, .ref m_readPlace, .ref m_script, .ref m_scriptLong, .int 0, .ref m_now, .ref m_refused, .int 0, .ref m_shareX, .ref m_shareY, .int 0, .int 0, .ref m_askedRow, .int 0, .ref m_kept, .int 0, .long 0, .ref m_aside, .int 0, .int 0, .ref m_spelled, .int 0, .ref m_image, .int 0]))])) (vp_Si (fun r => r = -1)) 0 0 (fun _ => False) := by
  refine Met.ofW (cc := cX8_here) (maxL := 1) (ret := (some .int)) (by decide) rfl ?_
  intro p e s m args below meth c s₁ B hml hv
  obtain ⟨rfl, ⟨hK, hN⟩, hP⟩ := hv
  have hx := B.exec
  have hb := B.bytes
  have hr := B.returns
  have hts := atoms_spec (ws := v_d_here) B.pre
  have hown : s.vm.findClass RX8 = some m.cls := findClass_of_methodNamed B.named
  have hlocks := B.notSynchronized
  have hP : va_P E.1 vwCl [(mo, .inr (9, [.int 0, .ref m_tape, .int 0, .int 0, .int 0, .int 0, .int 0, .int wr, .long 0, .int 0, .int 0, .int 0, .int 0, .ref m_readPlace, .ref m_script, .ref m_scriptLong, .int 0, .ref m_now, .ref m_refused, .int 0, .ref m_shareX, .ref m_shareY, .int 0, .int 0, .ref m_askedRow, .int 0, .ref m_kept, .int 0, .long 0, .ref m_aside, .int 0, .int 0, .ref m_spelled, .int 0, .ref m_image, .int 0]))] s.heap := hP
  have hl := lv_entry ([.ref mo]) (n := 1) (Nat.le_of_ble_eq_true rfl)
  rw [lg_entry_eq]
  generalize (lg_sl ([.ref mo]) ++ List.replicate (1 - (lg_sl ([.ref mo])).length) Slot.unset).toArray = ls at hl ⊢
  have hl : lv_has ls 1 [(0, .ref mo)] := hl
  refine lv_aload_n hx hb dX8_here_0 rfl (lv_at hl 0 rfl) ?_
  refine va_get (D := E.1) (ci := 9) (v := .int 0) (C := RX8) (T := TX8) (N := 36) hx hb hts i_d_here_X8 hown hK hP 0 rfl rfl 3 (by decide) (hts (.fieldLink RX8 64 "HushWatchModel" "at" "I") (List.mem_of_getElem? (i := 1) rfl)) (fun _ h9 => h9) rfl dX8_here_1 ?_
  refine lv_aload_n hx hb dX8_here_4 rfl (lv_at hl 0 rfl) ?_
  refine va_get (D := E.1) (ci := 9) (v := .int 0) (C := RX8) (T := TX8) (N := 36) hx hb hts i_d_here_X8 hown hK hP 0 rfl rfl 2 (by decide) (hts (.fieldLink RX8 57 "HushWatchModel" "taped" "I") (List.mem_of_getElem? (i := 2) rfl)) (fun _ h9 => h9) rfl dX8_here_5 ?_
  refine lv_icmp_ge (tgt := 23) hx hb dX8_here_8 (by decide) (fun _ => ?_) (fun q => absurd (by decide) q)
  refine lv_iconst (v := -1) hx hb dX8_here_23 (by decide) ?_
  exact W.iret (v := -1) hx hb hr (fun tt ht hW => ⟨_, rfl, rfl, ht⟩) (fun _ h => by cases h) dX8_here_24

def v_d_next : List Cond := .code yX8_next cX8_next 2 none :: ([.fieldLink RX8 64 "HushWatchModel" "at" "I", .fieldLink RX8 94 "HushWatchModel" "partFrom" "I", .fieldLink RX8 83 "HushWatchModel" "part" "I", .methodLink RX8 71 yX8_here, .instanceMethod yX8_here, .selects RX8 yX8_here yX8_here, .initialized RX8] ++ (v_d_here ++ (wsX80 ++ ([]))))
theorem gw_d_next : v_d_next.all goodWord = true := by decide +kernel
theorem i_d_next_X8 : ∀ w ∈ wsX80, w ∈ v_d_next := fun _ h => List.mem_cons_of_mem _ (List.mem_append_right _ (List.mem_append_right _ (List.mem_append_left _ h)))
theorem g_d_next_d_here_71 : GoodIn v_d_next (wsV RX8 71 RX8 yX8_here v_d_here) := goodIn_app (goodIn_of _ (by decide +kernel)) (goodIn_sub (fun _ h => List.mem_cons_of_mem _ (List.mem_append_right _ (List.mem_append_left _ h))) gw_d_here)
set_option maxHeartbeats 4000000 in
set_option maxRecDepth 100000 in
theorem d_next (l : Launch) (E : EE) (sz : Nat) (mo m_tape m_readPlace m_script m_scriptLong m_now m_refused m_shareX m_shareY m_askedRow m_kept m_aside m_spelled m_image : Nat) : Met l yX8_next v_d_next ({ frames := 1, cells := 0, slots := 0, locals := 20 }) (va_Pc [.ref mo] (pW E sz [(mo, .inr (9, [.int 0, .ref m_tape, .int 0, .int 0, .int 0, .int 0, .int 0, .int (-1), .long 0, .int 0, .int 0, .int 0, .int 0, .ref m_readPlace, .ref m_script, .ref m_scriptLong, .int 0, .ref m_now, .ref m_refused, .int 0, .ref m_shareX, .ref m_shareY, .int 0, .int 0, .ref m_askedRow, .int 0, .ref m_kept, .int 0, .long 0, .ref m_aside, .int 0, .int 0, .ref m_spelled, .int 0, .ref m_image, .int 0]))])) (va_Qv (fun (_u : Unit) => True) (fun (_u : Unit) tt => va_P E.1 vwCl [(mo, .inr (9, [.int 0, .ref m_tape, .int 0, .int 0, .int 0, .int 0, .int 0, .int (-1), .long 0, .int 0, .int 0, .int 0, .int 0, .ref m_readPlace, .ref m_script, .ref m_scriptLong, .int 0, .ref m_now, .ref m_refused, .int 0, .ref m_shareX, .ref m_shareY, .int 0, .int 0, .ref m_askedRow, .int 0, .ref m_kept, .int 0, .long 0, .ref m_aside, .int 0, .int 0, .ref m_spelled, .int 0, .ref m_image, .int 0]))] tt.heap ∧ va_D (va_A [(mo, .inr (9, [.int 0, .ref m_tape, .int 0, .int 0, .int 0, .int 0, .int 0, .int (-1), .long 0, .int 0, .int 0, .int 0, .int 0, .ref m_readPlace, .ref m_script, .ref m_scriptLong, .int 0, .ref m_now, .ref m_refused, .int 0, .ref m_shareX, .ref m_shareY, .int 0, .int 0, .ref m_askedRow, .int 0, .ref m_kept, .int 0, .long 0, .ref m_aside, .int 0, .int 0, .ref m_spelled, .int 0, .ref m_image, .int 0]))] sz) [(mo, .inr (9, [.int 0, .ref m_tape, .int 0, .int 0, .int 0, .int 0, .int 0, .int (-1), .long 0, .int 0, .int 0, .int 0, .int 0, .ref m_readPlace, .ref m_script, .ref m_scriptLong, .int 0, .ref m_now, .ref m_refused, .int 0, .ref m_shareX, .ref m_shareY, .int 0, .int 0, .ref m_askedRow, .int 0, .ref m_kept, .int 0, .long 0, .ref m_aside, .int 0, .int 0, .ref m_spelled, .int 0, .ref m_image, .int 0]))]) (va_A [(mo, .inr (9, [.int 0, .ref m_tape, .int 0, .int 0, .int 0, .int 0, .int 0, .int (-1), .long 0, .int 0, .int 0, .int 0, .int 0, .ref m_readPlace, .ref m_script, .ref m_scriptLong, .int 0, .ref m_now, .ref m_refused, .int 0, .ref m_shareX, .ref m_shareY, .int 0, .int 0, .ref m_askedRow, .int 0, .ref m_kept, .int 0, .long 0, .ref m_aside, .int 0, .int 0, .ref m_spelled, .int 0, .ref m_image, .int 0]))] sz)) 0 0 (va_A [(mo, .inr (9, [.int 0, .ref m_tape, .int 0, .int 0, .int 0, .int 0, .int 0, .int (-1), .long 0, .int 0, .int 0, .int 0, .int 0, .ref m_readPlace, .ref m_script, .ref m_scriptLong, .int 0, .ref m_now, .ref m_refused, .int 0, .ref m_shareX, .ref m_shareY, .int 0, .int 0, .ref m_askedRow, .int 0, .ref m_kept, .int 0, .long 0, .ref m_aside, .int 0, .int 0, .ref m_spelled, .int 0, .ref m_image, .int 0]))] sz) := by
  refine Met.ofW (cc := cX8_next) (maxL := 2) (ret := none) (by decide) rfl ?_
  intro p e s m args below meth c s₁ B hml hv
  obtain ⟨rfl, hsz, ⟨hK, hN⟩, hP, hD0⟩ := hv
  have hx := B.exec
  have hb := B.bytes
  have hr := B.returns
  have hts := atoms_spec (ws := v_d_next) B.pre
  have hown : s.vm.findClass RX8 = some m.cls := findClass_of_methodNamed B.named
  have hlocks := B.notSynchronized
  subst hsz
  have hD := hD0.self (sz := s.heap.size)
  generalize hAe : va_A [(mo, .inr (9, [.int 0, .ref m_tape, .int 0, .int 0, .int 0, .int 0, .int 0, .int (-1), .long 0, .int 0, .int 0, .int 0, .int 0, .ref m_readPlace, .ref m_script, .ref m_scriptLong, .int 0, .ref m_now, .ref m_refused, .int 0, .ref m_shareX, .ref m_shareY, .int 0, .int 0, .ref m_askedRow, .int 0, .ref m_kept, .int 0, .long 0, .ref m_aside, .int 0, .int 0, .ref m_spelled, .int 0, .ref m_image, .int 0]))] s.heap.size = A at hD ⊢
  have hA : ∀ q : Nat, s.heap.size ≤ q → A q := fun q h => by rw [← hAe]; exact Or.inr h
  have hS : va_S A s.heap s.heap [] := va_S.rf
  have hP : va_P E.1 vwCl [(mo, .inr (9, [.int 0, .ref m_tape, .int 0, .int 0, .int 0, .int 0, .int 0, .int (-1), .long 0, .int 0, .int 0, .int 0, .int 0, .ref m_readPlace, .ref m_script, .ref m_scriptLong, .int 0, .ref m_now, .ref m_refused, .int 0, .ref m_shareX, .ref m_shareY, .int 0, .int 0, .ref m_askedRow, .int 0, .ref m_kept, .int 0, .long 0, .ref m_aside, .int 0, .int 0, .ref m_spelled, .int 0, .ref m_image, .int 0]))] s.heap := hP
  have hl := lv_entry ([.ref mo]) (n := 2) (Nat.le_of_ble_eq_true rfl)
  rw [lg_entry_eq]
  generalize (lg_sl ([.ref mo]) ++ List.replicate (2 - (lg_sl ([.ref mo])).length) Slot.unset).toArray = ls at hl ⊢
  have hl : lv_has ls 2 [(0, .ref mo)] := hl
  refine lv_aload_n hx hb dX8_next_0 rfl (lv_at hl 0 rfl) ?_
  have hPc := hP.sub (ws' := [(mo, .inr (9, [.int 0, .ref m_tape, .int 0, .int 0, .int 0, .int 0, .int 0, .int (-1), .long 0, .int 0, .int 0, .int 0, .int 0, .ref m_readPlace, .ref m_script, .ref m_scriptLong, .int 0, .ref m_now, .ref m_refused, .int 0, .ref m_shareX, .ref m_shareY, .int 0, .int 0, .ref m_askedRow, .int 0, .ref m_kept, .int 0, .long 0, .ref m_aside, .int 0, .int 0, .ref m_spelled, .int 0, .ref m_image, .int 0]))]) [0] rfl
  refine pc_i (va_runV (As := []) (rest := []) ⟨hx, hb, hml, hown, hts⟩ (d_here l E mo m_tape m_readPlace m_script m_scriptLong m_now m_refused m_shareX m_shareY m_askedRow m_kept m_aside m_spelled m_image (-1)) (cwV 0 hts g_d_next_d_here_71 rfl rfl rfl (by decide +kernel) ⟨Nat.le_of_ble_eq_true rfl, Nat.le_of_ble_eq_true rfl⟩) ⟨pP.blind, va_recv hK hPc (ci := 9) (q0 := 0) rfl rfl, (pP.pre ⟨hK, hN⟩ hPc)⟩ rfl rfl hl.1 rfl (lv_room (Nat.le_of_ble_eq_true rfl)) dX8_next_1 ⟨Nat.le_of_ble_eq_true rfl, Nat.le_of_ble_eq_true rfl⟩) (fun r_1 hr_1 => ?_)
  obtain rfl : r_1 = -1 := hr_1
  refine lv_bipush (v := 32) hx hb dX8_next_4 (by decide) ?_
  refine lv_icmp_ne (tgt := 22) hx hb dX8_next_6 (by decide) (fun _ => ?_) (fun q => absurd q (by decide))
  refine lv_aload_n hx hb dX8_next_22 rfl (lv_at hl 0 rfl) ?_
  refine lv_aload_n hx hb dX8_next_23 rfl (lv_at hl 0 rfl) ?_
  refine va_get (D := E.1) (ci := 9) (v := .int 0) (C := RX8) (T := TX8) (N := 36) hx hb hts i_d_next_X8 hown hK hP 0 rfl rfl 3 (by decide) (hts (.fieldLink RX8 64 "HushWatchModel" "at" "I") (List.mem_of_getElem? (i := 1) rfl)) (fun _ h9 => h9) rfl dX8_next_24 ?_
  refine va_put (D := E.1) (ci := 9) (v := .int 0) (ty := .int) (C := RX8) (T := TX8) (N := 36) hx hb hts i_d_next_X8 tyX8 tyX8_ok nmX8 hown hK hP hD hS 0 rfl rfl 5 (by decide) (hts (.fieldLink RX8 94 "HushWatchModel" "partFrom" "I") (List.mem_of_getElem? (i := 2) rfl)) (fun _ h9 => h9) rfl (by decide +kernel) rfl rfl (Nat.le_of_ble_eq_true rfl) dX8_next_27 (fun H locs hP hD hS => ?_)
  have hP : va_P E.1 vwCl [(mo, .inr (9, [.int 0, .ref m_tape, .int 0, .int 0, .int 0, .int 0, .int 0, .int (-1), .long 0, .int 0, .int 0, .int 0, .int 0, .ref m_readPlace, .ref m_script, .ref m_scriptLong, .int 0, .ref m_now, .ref m_refused, .int 0, .ref m_shareX, .ref m_shareY, .int 0, .int 0, .ref m_askedRow, .int 0, .ref m_kept, .int 0, .long 0, .ref m_aside, .int 0, .int 0, .ref m_spelled, .int 0, .ref m_image, .int 0]))] H := hP
  have hD : va_D A [(mo, .inr (9, [.int 0, .ref m_tape, .int 0, .int 0, .int 0, .int 0, .int 0, .int (-1), .long 0, .int 0, .int 0, .int 0, .int 0, .ref m_readPlace, .ref m_script, .ref m_scriptLong, .int 0, .ref m_now, .ref m_refused, .int 0, .ref m_shareX, .ref m_shareY, .int 0, .int 0, .ref m_askedRow, .int 0, .ref m_kept, .int 0, .long 0, .ref m_aside, .int 0, .int 0, .ref m_spelled, .int 0, .ref m_image, .int 0]))] := hD
  refine lv_aload_n hx hb dX8_next_30 rfl (lv_at hl 0 rfl) ?_
  have hPc := hP.sub (ws' := [(mo, .inr (9, [.int 0, .ref m_tape, .int 0, .int 0, .int 0, .int 0, .int 0, .int (-1), .long 0, .int 0, .int 0, .int 0, .int 0, .ref m_readPlace, .ref m_script, .ref m_scriptLong, .int 0, .ref m_now, .ref m_refused, .int 0, .ref m_shareX, .ref m_shareY, .int 0, .int 0, .ref m_askedRow, .int 0, .ref m_kept, .int 0, .long 0, .ref m_aside, .int 0, .int 0, .ref m_spelled, .int 0, .ref m_image, .int 0]))]) [0] rfl
  refine pc_i (va_runV (As := []) (rest := []) ⟨hx, hb, hml, hown, hts⟩ (d_here l E mo m_tape m_readPlace m_script m_scriptLong m_now m_refused m_shareX m_shareY m_askedRow m_kept m_aside m_spelled m_image (-1)) (cwV 0 hts g_d_next_d_here_71 rfl rfl rfl (by decide +kernel) ⟨Nat.le_of_ble_eq_true rfl, Nat.le_of_ble_eq_true rfl⟩) ⟨pP.blind, va_recv hK hPc (ci := 9) (q0 := 0) rfl rfl, (pP.pre ⟨hK, hN⟩ hPc)⟩ rfl rfl hl.1 rfl (lv_room (Nat.le_of_ble_eq_true rfl)) dX8_next_31 ⟨Nat.le_of_ble_eq_true rfl, Nat.le_of_ble_eq_true rfl⟩) (fun r_2 hr_2 => ?_)
  obtain rfl : r_2 = -1 := hr_2
  refine lv_istore_n (lv' := [(1, .int (-1)), (0, .ref mo)]) hx hb dX8_next_34 rfl hl (by decide) rfl (fun ls hl => ?_)
  refine lv_iload_n hx hb dX8_next_35 rfl (lv_at hl 0 rfl) ?_
  refine lv_iconst (v := -1) hx hb dX8_next_36 (by decide) ?_
  refine lv_icmp_ne (tgt := 48) hx hb dX8_next_37 (by decide) (fun q => absurd (by decide) q) (fun _ => ?_)
  refine lv_aload_n hx hb dX8_next_40 rfl (lv_at hl 1 rfl) ?_
  refine lv_iconst (v := 0) hx hb dX8_next_41 (by decide) ?_
  refine va_put (D := E.1) (ci := 9) (v := .int 0) (ty := .int) (C := RX8) (T := TX8) (N := 36) hx hb hts i_d_next_X8 tyX8 tyX8_ok nmX8 hown hK hP hD hS 0 rfl rfl 4 (by decide) (hts (.fieldLink RX8 83 "HushWatchModel" "part" "I") (List.mem_of_getElem? (i := 3) rfl)) (fun _ h9 => h9) rfl (by decide +kernel) rfl rfl (Nat.le_of_ble_eq_true rfl) dX8_next_42 (fun H locs hP hD hS => ?_)
  have hP : va_P E.1 vwCl [(mo, .inr (9, [.int 0, .ref m_tape, .int 0, .int 0, .int 0, .int 0, .int 0, .int (-1), .long 0, .int 0, .int 0, .int 0, .int 0, .ref m_readPlace, .ref m_script, .ref m_scriptLong, .int 0, .ref m_now, .ref m_refused, .int 0, .ref m_shareX, .ref m_shareY, .int 0, .int 0, .ref m_askedRow, .int 0, .ref m_kept, .int 0, .long 0, .ref m_aside, .int 0, .int 0, .ref m_spelled, .int 0, .ref m_image, .int 0]))] H := hP
  have hD : va_D A [(mo, .inr (9, [.int 0, .ref m_tape, .int 0, .int 0, .int 0, .int 0, .int 0, .int (-1), .long 0, .int 0, .int 0, .int 0, .int 0, .ref m_readPlace, .ref m_script, .ref m_scriptLong, .int 0, .ref m_now, .ref m_refused, .int 0, .ref m_shareX, .ref m_shareY, .int 0, .int 0, .ref m_askedRow, .int 0, .ref m_kept, .int 0, .long 0, .ref m_aside, .int 0, .int 0, .ref m_spelled, .int 0, .ref m_image, .int 0]))] := hD
  refine lv_goto (tgt := 117) hx hb dX8_next_45 (by decide) ?_
  have hP9 := hP.sub (ws' := [(mo, .inr (9, [.int 0, .ref m_tape, .int 0, .int 0, .int 0, .int 0, .int 0, .int (-1), .long 0, .int 0, .int 0, .int 0, .int 0, .ref m_readPlace, .ref m_script, .ref m_scriptLong, .int 0, .ref m_now, .ref m_refused, .int 0, .ref m_shareX, .ref m_shareY, .int 0, .int 0, .ref m_askedRow, .int 0, .ref m_kept, .int 0, .long 0, .ref m_aside, .int 0, .int 0, .ref m_spelled, .int 0, .ref m_image, .int 0]))]) [0] rfl
  have hD9 := hD.sub (ws' := [(mo, .inr (9, [.int 0, .ref m_tape, .int 0, .int 0, .int 0, .int 0, .int 0, .int (-1), .long 0, .int 0, .int 0, .int 0, .int 0, .ref m_readPlace, .ref m_script, .ref m_scriptLong, .int 0, .ref m_now, .ref m_refused, .int 0, .ref m_shareX, .ref m_shareY, .int 0, .int 0, .ref m_askedRow, .int 0, .ref m_kept, .int 0, .long 0, .ref m_aside, .int 0, .int 0, .ref m_spelled, .int 0, .ref m_image, .int 0]))]) [0] (by decide) rfl
  exact W.vret hx hb hr (fun tt ht hW => ⟨⟨(), rfl, trivial, by rw [ht]; exact hP9, hD9⟩, hS.F ht⟩) hS.2.2 dX8_next_117

def v_d_begins : List Cond := .code yX8_begins cX8_begins 1 none :: ([.fieldLink RX8 64 "HushWatchModel" "at" "I", .fieldLink RX8 103 "HushWatchModel" "wrong" "I", .methodLink RX8 109 yX8_next, .instanceMethod yX8_next, .selects RX8 yX8_next yX8_next, .initialized RX8] ++ (wsX80 ++ (v_d_next ++ ([]))))
theorem gw_d_begins : v_d_begins.all goodWord = true := by decide +kernel
theorem i_d_begins_X8 : ∀ w ∈ wsX80, w ∈ v_d_begins := fun _ h => List.mem_cons_of_mem _ (List.mem_append_right _ (List.mem_append_left _ h))
theorem g_d_begins_d_next_109 : GoodIn v_d_begins (wsV RX8 109 RX8 yX8_next v_d_next) := goodIn_app (goodIn_of _ (by decide +kernel)) (goodIn_sub (fun _ h => List.mem_cons_of_mem _ (List.mem_append_right _ (List.mem_append_right _ (List.mem_append_left _ h)))) gw_d_next)
set_option maxHeartbeats 4000000 in
set_option maxRecDepth 100000 in
theorem d_begins (l : Launch) (E : EE) (sz : Nat) (mo m_tape m_readPlace m_script m_scriptLong m_now m_refused m_shareX m_shareY m_askedRow m_kept m_aside m_spelled m_image : Nat) : Met l yX8_begins v_d_begins ({ frames := 2, cells := 0, slots := 0, locals := 41 }) (va_Pc [.ref mo] (pW E sz [(mo, .inr (9, [.int 0, .ref m_tape, .int 0, .int 0, .int 0, .int 0, .int 0, .int 0, .long 0, .int 0, .int 0, .int 0, .int 0, .ref m_readPlace, .ref m_script, .ref m_scriptLong, .int 0, .ref m_now, .ref m_refused, .int 0, .ref m_shareX, .ref m_shareY, .int 0, .int 0, .ref m_askedRow, .int 0, .ref m_kept, .int 0, .long 0, .ref m_aside, .int 0, .int 0, .ref m_spelled, .int 0, .ref m_image, .int 0]))])) (va_Qv (fun (_u : Unit) => True) (fun (_u : Unit) tt => va_P E.1 vwCl [(mo, .inr (9, [.int 0, .ref m_tape, .int 0, .int 0, .int 0, .int 0, .int 0, .int (-1), .long 0, .int 0, .int 0, .int 0, .int 0, .ref m_readPlace, .ref m_script, .ref m_scriptLong, .int 0, .ref m_now, .ref m_refused, .int 0, .ref m_shareX, .ref m_shareY, .int 0, .int 0, .ref m_askedRow, .int 0, .ref m_kept, .int 0, .long 0, .ref m_aside, .int 0, .int 0, .ref m_spelled, .int 0, .ref m_image, .int 0]))] tt.heap ∧ va_D (va_A [(mo, .inr (9, [.int 0, .ref m_tape, .int 0, .int 0, .int 0, .int 0, .int 0, .int 0, .long 0, .int 0, .int 0, .int 0, .int 0, .ref m_readPlace, .ref m_script, .ref m_scriptLong, .int 0, .ref m_now, .ref m_refused, .int 0, .ref m_shareX, .ref m_shareY, .int 0, .int 0, .ref m_askedRow, .int 0, .ref m_kept, .int 0, .long 0, .ref m_aside, .int 0, .int 0, .ref m_spelled, .int 0, .ref m_image, .int 0]))] sz) [(mo, .inr (9, [.int 0, .ref m_tape, .int 0, .int 0, .int 0, .int 0, .int 0, .int (-1), .long 0, .int 0, .int 0, .int 0, .int 0, .ref m_readPlace, .ref m_script, .ref m_scriptLong, .int 0, .ref m_now, .ref m_refused, .int 0, .ref m_shareX, .ref m_shareY, .int 0, .int 0, .ref m_askedRow, .int 0, .ref m_kept, .int 0, .long 0, .ref m_aside, .int 0, .int 0, .ref m_spelled, .int 0, .ref m_image, .int 0]))]) (va_A [(mo, .inr (9, [.int 0, .ref m_tape, .int 0, .int 0, .int 0, .int 0, .int 0, .int 0, .long 0, .int 0, .int 0, .int 0, .int 0, .ref m_readPlace, .ref m_script, .ref m_scriptLong, .int 0, .ref m_now, .ref m_refused, .int 0, .ref m_shareX, .ref m_shareY, .int 0, .int 0, .ref m_askedRow, .int 0, .ref m_kept, .int 0, .long 0, .ref m_aside, .int 0, .int 0, .ref m_spelled, .int 0, .ref m_image, .int 0]))] sz)) 0 0 (va_A [(mo, .inr (9, [.int 0, .ref m_tape, .int 0, .int 0, .int 0, .int 0, .int 0, .int 0, .long 0, .int 0, .int 0, .int 0, .int 0, .ref m_readPlace, .ref m_script, .ref m_scriptLong, .int 0, .ref m_now, .ref m_refused, .int 0, .ref m_shareX, .ref m_shareY, .int 0, .int 0, .ref m_askedRow, .int 0, .ref m_kept, .int 0, .long 0, .ref m_aside, .int 0, .int 0, .ref m_spelled, .int 0, .ref m_image, .int 0]))] sz) := by
  refine Met.ofW (cc := cX8_begins) (maxL := 1) (ret := none) (by decide) rfl ?_
  intro p e s m args below meth c s₁ B hml hv
  obtain ⟨rfl, hsz, ⟨hK, hN⟩, hP, hD0⟩ := hv
  have hx := B.exec
  have hb := B.bytes
  have hr := B.returns
  have hts := atoms_spec (ws := v_d_begins) B.pre
  have hown : s.vm.findClass RX8 = some m.cls := findClass_of_methodNamed B.named
  have hlocks := B.notSynchronized
  subst hsz
  have hD := hD0.self (sz := s.heap.size)
  generalize hAe : va_A [(mo, .inr (9, [.int 0, .ref m_tape, .int 0, .int 0, .int 0, .int 0, .int 0, .int 0, .long 0, .int 0, .int 0, .int 0, .int 0, .ref m_readPlace, .ref m_script, .ref m_scriptLong, .int 0, .ref m_now, .ref m_refused, .int 0, .ref m_shareX, .ref m_shareY, .int 0, .int 0, .ref m_askedRow, .int 0, .ref m_kept, .int 0, .long 0, .ref m_aside, .int 0, .int 0, .ref m_spelled, .int 0, .ref m_image, .int 0]))] s.heap.size = A at hD ⊢
  have hA : ∀ q : Nat, s.heap.size ≤ q → A q := fun q h => by rw [← hAe]; exact Or.inr h
  have hS : va_S A s.heap s.heap [] := va_S.rf
  have hP : va_P E.1 vwCl [(mo, .inr (9, [.int 0, .ref m_tape, .int 0, .int 0, .int 0, .int 0, .int 0, .int 0, .long 0, .int 0, .int 0, .int 0, .int 0, .ref m_readPlace, .ref m_script, .ref m_scriptLong, .int 0, .ref m_now, .ref m_refused, .int 0, .ref m_shareX, .ref m_shareY, .int 0, .int 0, .ref m_askedRow, .int 0, .ref m_kept, .int 0, .long 0, .ref m_aside, .int 0, .int 0, .ref m_spelled, .int 0, .ref m_image, .int 0]))] s.heap := hP
  have hl := lv_entry ([.ref mo]) (n := 1) (Nat.le_of_ble_eq_true rfl)
  rw [lg_entry_eq]
  generalize (lg_sl ([.ref mo]) ++ List.replicate (1 - (lg_sl ([.ref mo])).length) Slot.unset).toArray = ls at hl ⊢
  have hl : lv_has ls 1 [(0, .ref mo)] := hl
  refine lv_aload_n hx hb dX8_begins_0 rfl (lv_at hl 0 rfl) ?_
  refine lv_iconst (v := 0) hx hb dX8_begins_1 (by decide) ?_
  refine va_put (D := E.1) (ci := 9) (v := .int 0) (ty := .int) (C := RX8) (T := TX8) (N := 36) hx hb hts i_d_begins_X8 tyX8 tyX8_ok nmX8 hown hK hP hD hS 0 rfl rfl 3 (by decide) (hts (.fieldLink RX8 64 "HushWatchModel" "at" "I") (List.mem_of_getElem? (i := 1) rfl)) (fun _ h9 => h9) rfl (by decide +kernel) rfl rfl (Nat.le_of_ble_eq_true rfl) dX8_begins_2 (fun H locs hP hD hS => ?_)
  have hP : va_P E.1 vwCl [(mo, .inr (9, [.int 0, .ref m_tape, .int 0, .int 0, .int 0, .int 0, .int 0, .int 0, .long 0, .int 0, .int 0, .int 0, .int 0, .ref m_readPlace, .ref m_script, .ref m_scriptLong, .int 0, .ref m_now, .ref m_refused, .int 0, .ref m_shareX, .ref m_shareY, .int 0, .int 0, .ref m_askedRow, .int 0, .ref m_kept, .int 0, .long 0, .ref m_aside, .int 0, .int 0, .ref m_spelled, .int 0, .ref m_image, .int 0]))] H := hP
  have hD : va_D A [(mo, .inr (9, [.int 0, .ref m_tape, .int 0, .int 0, .int 0, .int 0, .int 0, .int 0, .long 0, .int 0, .int 0, .int 0, .int 0, .ref m_readPlace, .ref m_script, .ref m_scriptLong, .int 0, .ref m_now, .ref m_refused, .int 0, .ref m_shareX, .ref m_shareY, .int 0, .int 0, .ref m_askedRow, .int 0, .ref m_kept, .int 0, .long 0, .ref m_aside, .int 0, .int 0, .ref m_spelled, .int 0, .ref m_image, .int 0]))] := hD
  refine lv_aload_n hx hb dX8_begins_5 rfl (lv_at hl 0 rfl) ?_
  refine lv_iconst (v := -1) hx hb dX8_begins_6 (by decide) ?_
  refine va_put (D := E.1) (ci := 9) (v := .int (-1)) (ty := .int) (C := RX8) (T := TX8) (N := 36) hx hb hts i_d_begins_X8 tyX8 tyX8_ok nmX8 hown hK hP hD hS 0 rfl rfl 7 (by decide) (hts (.fieldLink RX8 103 "HushWatchModel" "wrong" "I") (List.mem_of_getElem? (i := 2) rfl)) (fun _ h9 => h9) rfl (by decide +kernel) rfl rfl (Nat.le_of_ble_eq_true rfl) dX8_begins_7 (fun H locs hP hD hS => ?_)
  have hP : va_P E.1 vwCl [(mo, .inr (9, [.int 0, .ref m_tape, .int 0, .int 0, .int 0, .int 0, .int 0, .int (-1), .long 0, .int 0, .int 0, .int 0, .int 0, .ref m_readPlace, .ref m_script, .ref m_scriptLong, .int 0, .ref m_now, .ref m_refused, .int 0, .ref m_shareX, .ref m_shareY, .int 0, .int 0, .ref m_askedRow, .int 0, .ref m_kept, .int 0, .long 0, .ref m_aside, .int 0, .int 0, .ref m_spelled, .int 0, .ref m_image, .int 0]))] H := hP
  have hD : va_D A [(mo, .inr (9, [.int 0, .ref m_tape, .int 0, .int 0, .int 0, .int 0, .int 0, .int (-1), .long 0, .int 0, .int 0, .int 0, .int 0, .ref m_readPlace, .ref m_script, .ref m_scriptLong, .int 0, .ref m_now, .ref m_refused, .int 0, .ref m_shareX, .ref m_shareY, .int 0, .int 0, .ref m_askedRow, .int 0, .ref m_kept, .int 0, .long 0, .ref m_aside, .int 0, .int 0, .ref m_spelled, .int 0, .ref m_image, .int 0]))] := hD
  refine lv_aload_n hx hb dX8_begins_10 rfl (lv_at hl 0 rfl) ?_
  have hPc := hP.sub (ws' := [(mo, .inr (9, [.int 0, .ref m_tape, .int 0, .int 0, .int 0, .int 0, .int 0, .int (-1), .long 0, .int 0, .int 0, .int 0, .int 0, .ref m_readPlace, .ref m_script, .ref m_scriptLong, .int 0, .ref m_now, .ref m_refused, .int 0, .ref m_shareX, .ref m_shareY, .int 0, .int 0, .ref m_askedRow, .int 0, .ref m_kept, .int 0, .long 0, .ref m_aside, .int 0, .int 0, .ref m_spelled, .int 0, .ref m_image, .int 0]))]) [0] rfl
  have hDc := hD.sub (ws' := [(mo, .inr (9, [.int 0, .ref m_tape, .int 0, .int 0, .int 0, .int 0, .int 0, .int (-1), .long 0, .int 0, .int 0, .int 0, .int 0, .ref m_readPlace, .ref m_script, .ref m_scriptLong, .int 0, .ref m_now, .ref m_refused, .int 0, .ref m_shareX, .ref m_shareY, .int 0, .int 0, .ref m_askedRow, .int 0, .ref m_kept, .int 0, .long 0, .ref m_aside, .int 0, .int 0, .ref m_spelled, .int 0, .ref m_image, .int 0]))]) [0] (by decide) rfl
  have hFc := va_free (wc := [(mo, .inr (9, [.int 0, .ref m_tape, .int 0, .int 0, .int 0, .int 0, .int 0, .int (-1), .long 0, .int 0, .int 0, .int 0, .int 0, .ref m_readPlace, .ref m_script, .ref m_scriptLong, .int 0, .ref m_now, .ref m_refused, .int 0, .ref m_shareX, .ref m_shareY, .int 0, .int 0, .ref m_askedRow, .int 0, .ref m_kept, .int 0, .long 0, .ref m_aside, .int 0, .int 0, .ref m_spelled, .int 0, .ref m_image, .int 0]))]) hD hS hA [0] rfl
  refine va_callv (va_runV (As := []) (rest := []) ⟨hx, hb, hml, hown, hts⟩ (d_next l E H.size mo m_tape m_readPlace m_script m_scriptLong m_now m_refused m_shareX m_shareY m_askedRow m_kept m_aside m_spelled m_image) (cwV 0 hts g_d_begins_d_next_109 rfl rfl rfl (by decide +kernel) ⟨Nat.le_of_ble_eq_true rfl, Nat.le_of_ble_eq_true rfl⟩) ⟨pW.blind, va_recv hK hPc (ci := 9) (q0 := 0) rfl rfl, (pW.pre ⟨hK, hN⟩ hPc hDc)⟩ rfl rfl hl.1 rfl (lv_room (Nat.le_of_ble_eq_true rfl)) dX8_begins_11 ⟨Nat.le_of_ble_eq_true rfl, Nat.le_of_ble_eq_true rfl⟩) hS (fun q _ h => hFc q h) hFc (fun  u tt H1 locs ht hvm hw hB hz1 hk1 hS => ?_)
  obtain ⟨hP1, hD1⟩ := hB
  rw [ht] at hP1
  obtain ⟨hP, hD⟩ := va_join (wr := []) (w1 := [(mo, .inr (9, [.int 0, .ref m_tape, .int 0, .int 0, .int 0, .int 0, .int 0, .int (-1), .long 0, .int 0, .int 0, .int 0, .int 0, .ref m_readPlace, .ref m_script, .ref m_scriptLong, .int 0, .ref m_now, .ref m_refused, .int 0, .ref m_shareX, .ref m_shareY, .int 0, .int 0, .ref m_askedRow, .int 0, .ref m_kept, .int 0, .long 0, .ref m_aside, .int 0, .int 0, .ref m_spelled, .int 0, .ref m_image, .int 0]))]) hP hD [0] [] rfl rfl (by decide) (by decide) hk1 hFc hP1 hD1
  generalize H1 = H at hP hS ⊢
  have hP : va_P E.1 vwCl [(mo, .inr (9, [.int 0, .ref m_tape, .int 0, .int 0, .int 0, .int 0, .int 0, .int (-1), .long 0, .int 0, .int 0, .int 0, .int 0, .ref m_readPlace, .ref m_script, .ref m_scriptLong, .int 0, .ref m_now, .ref m_refused, .int 0, .ref m_shareX, .ref m_shareY, .int 0, .int 0, .ref m_askedRow, .int 0, .ref m_kept, .int 0, .long 0, .ref m_aside, .int 0, .int 0, .ref m_spelled, .int 0, .ref m_image, .int 0]))] H := hP
  have hD : va_D A [(mo, .inr (9, [.int 0, .ref m_tape, .int 0, .int 0, .int 0, .int 0, .int 0, .int (-1), .long 0, .int 0, .int 0, .int 0, .int 0, .ref m_readPlace, .ref m_script, .ref m_scriptLong, .int 0, .ref m_now, .ref m_refused, .int 0, .ref m_shareX, .ref m_shareY, .int 0, .int 0, .ref m_askedRow, .int 0, .ref m_kept, .int 0, .long 0, .ref m_aside, .int 0, .int 0, .ref m_spelled, .int 0, .ref m_image, .int 0]))] := hD
  have hP9 := hP.sub (ws' := [(mo, .inr (9, [.int 0, .ref m_tape, .int 0, .int 0, .int 0, .int 0, .int 0, .int (-1), .long 0, .int 0, .int 0, .int 0, .int 0, .ref m_readPlace, .ref m_script, .ref m_scriptLong, .int 0, .ref m_now, .ref m_refused, .int 0, .ref m_shareX, .ref m_shareY, .int 0, .int 0, .ref m_askedRow, .int 0, .ref m_kept, .int 0, .long 0, .ref m_aside, .int 0, .int 0, .ref m_spelled, .int 0, .ref m_image, .int 0]))]) [0] rfl
  have hD9 := hD.sub (ws' := [(mo, .inr (9, [.int 0, .ref m_tape, .int 0, .int 0, .int 0, .int 0, .int 0, .int (-1), .long 0, .int 0, .int 0, .int 0, .int 0, .ref m_readPlace, .ref m_script, .ref m_scriptLong, .int 0, .ref m_now, .ref m_refused, .int 0, .ref m_shareX, .ref m_shareY, .int 0, .int 0, .ref m_askedRow, .int 0, .ref m_kept, .int 0, .long 0, .ref m_aside, .int 0, .int 0, .ref m_spelled, .int 0, .ref m_image, .int 0]))]) [0] (by decide) rfl
  exact W.vret hx hb hr (fun tt ht hW => ⟨⟨(), rfl, trivial, by rw [ht]; exact hP9, hD9⟩, hS.F ht⟩) hS.2.2 dX8_begins_14

def v_d_bad : List Cond := .code yX8_bad cX8_bad 1 none :: ([.fieldLink RX8 103 "HushWatchModel" "wrong" "I", .fieldLink RX8 94 "HushWatchModel" "partFrom" "I"] ++ (wsX80 ++ ([])))
theorem gw_d_bad : v_d_bad.all goodWord = true := by decide +kernel
theorem i_d_bad_X8 : ∀ w ∈ wsX80, w ∈ v_d_bad := fun _ h => List.mem_cons_of_mem _ (List.mem_append_right _ (List.mem_append_left _ h))
set_option maxHeartbeats 4000000 in
set_option maxRecDepth 100000 in
theorem d_bad (l : Launch) (E : EE) (sz : Nat) (mo m_tape m_readPlace m_script m_scriptLong m_now m_refused m_shareX m_shareY m_askedRow m_kept m_aside m_spelled m_image : Nat) (rb rg : Int32) : Met l yX8_bad v_d_bad ({ frames := 0, cells := 0, slots := 0, locals := 0 }) (va_Pc [.ref mo] (pW E sz [(mo, .inr (9, [.int 0, .ref m_tape, .int 0, .int 0, .int 0, .int 0, .int 0, .int (-1), .long 0, .int 0, .int rb, .int rg, .int 0, .ref m_readPlace, .ref m_script, .ref m_scriptLong, .int 0, .ref m_now, .ref m_refused, .int 0, .ref m_shareX, .ref m_shareY, .int 0, .int 0, .ref m_askedRow, .int 0, .ref m_kept, .int 0, .long 0, .ref m_aside, .int 0, .int 0, .ref m_spelled, .int 0, .ref m_image, .int 0]))])) (va_Qv (fun (_u : Unit) => True) (fun (_u : Unit) tt => va_P E.1 vwCl [(mo, .inr (9, [.int 0, .ref m_tape, .int 0, .int 0, .int 0, .int 0, .int 0, .int 0, .long 0, .int 0, .int rb, .int rg, .int 0, .ref m_readPlace, .ref m_script, .ref m_scriptLong, .int 0, .ref m_now, .ref m_refused, .int 0, .ref m_shareX, .ref m_shareY, .int 0, .int 0, .ref m_askedRow, .int 0, .ref m_kept, .int 0, .long 0, .ref m_aside, .int 0, .int 0, .ref m_spelled, .int 0, .ref m_image, .int 0]))] tt.heap ∧ va_D (va_A [(mo, .inr (9, [.int 0, .ref m_tape, .int 0, .int 0, .int 0, .int 0, .int 0, .int (-1), .long 0, .int 0, .int rb, .int rg, .int 0, .ref m_readPlace, .ref m_script, .ref m_scriptLong, .int 0, .ref m_now, .ref m_refused, .int 0, .ref m_shareX, .ref m_shareY, .int 0, .int 0, .ref m_askedRow, .int 0, .ref m_kept, .int 0, .long 0, .ref m_aside, .int 0, .int 0, .ref m_spelled, .int 0, .ref m_image, .int 0]))] sz) [(mo, .inr (9, [.int 0, .ref m_tape, .int 0, .int 0, .int 0, .int 0, .int 0, .int 0, .long 0, .int 0, .int rb, .int rg, .int 0, .ref m_readPlace, .ref m_script, .ref m_scriptLong, .int 0, .ref m_now, .ref m_refused, .int 0, .ref m_shareX, .ref m_shareY, .int 0, .int 0, .ref m_askedRow, .int 0, .ref m_kept, .int 0, .long 0, .ref m_aside, .int 0, .int 0, .ref m_spelled, .int 0, .ref m_image, .int 0]))]) (va_A [(mo, .inr (9, [.int 0, .ref m_tape, .int 0, .int 0, .int 0, .int 0, .int 0, .int (-1), .long 0, .int 0, .int rb, .int rg, .int 0, .ref m_readPlace, .ref m_script, .ref m_scriptLong, .int 0, .ref m_now, .ref m_refused, .int 0, .ref m_shareX, .ref m_shareY, .int 0, .int 0, .ref m_askedRow, .int 0, .ref m_kept, .int 0, .long 0, .ref m_aside, .int 0, .int 0, .ref m_spelled, .int 0, .ref m_image, .int 0]))] sz)) 0 0 (va_A [(mo, .inr (9, [.int 0, .ref m_tape, .int 0, .int 0, .int 0, .int 0, .int 0, .int (-1), .long 0, .int 0, .int rb, .int rg, .int 0, .ref m_readPlace, .ref m_script, .ref m_scriptLong, .int 0, .ref m_now, .ref m_refused, .int 0, .ref m_shareX, .ref m_shareY, .int 0, .int 0, .ref m_askedRow, .int 0, .ref m_kept, .int 0, .long 0, .ref m_aside, .int 0, .int 0, .ref m_spelled, .int 0, .ref m_image, .int 0]))] sz) := by
  refine Met.ofW (cc := cX8_bad) (maxL := 1) (ret := none) (by decide) rfl ?_
  intro p e s m args below meth c s₁ B hml hv
  obtain ⟨rfl, hsz, ⟨hK, hN⟩, hP, hD0⟩ := hv
  have hx := B.exec
  have hb := B.bytes
  have hr := B.returns
  have hts := atoms_spec (ws := v_d_bad) B.pre
  have hown : s.vm.findClass RX8 = some m.cls := findClass_of_methodNamed B.named
  have hlocks := B.notSynchronized
  subst hsz
  have hD := hD0.self (sz := s.heap.size)
  generalize hAe : va_A [(mo, .inr (9, [.int 0, .ref m_tape, .int 0, .int 0, .int 0, .int 0, .int 0, .int (-1), .long 0, .int 0, .int rb, .int rg, .int 0, .ref m_readPlace, .ref m_script, .ref m_scriptLong, .int 0, .ref m_now, .ref m_refused, .int 0, .ref m_shareX, .ref m_shareY, .int 0, .int 0, .ref m_askedRow, .int 0, .ref m_kept, .int 0, .long 0, .ref m_aside, .int 0, .int 0, .ref m_spelled, .int 0, .ref m_image, .int 0]))] s.heap.size = A at hD ⊢
  have hA : ∀ q : Nat, s.heap.size ≤ q → A q := fun q h => by rw [← hAe]; exact Or.inr h
  have hS : va_S A s.heap s.heap [] := va_S.rf
  have hP : va_P E.1 vwCl [(mo, .inr (9, [.int 0, .ref m_tape, .int 0, .int 0, .int 0, .int 0, .int 0, .int (-1), .long 0, .int 0, .int rb, .int rg, .int 0, .ref m_readPlace, .ref m_script, .ref m_scriptLong, .int 0, .ref m_now, .ref m_refused, .int 0, .ref m_shareX, .ref m_shareY, .int 0, .int 0, .ref m_askedRow, .int 0, .ref m_kept, .int 0, .long 0, .ref m_aside, .int 0, .int 0, .ref m_spelled, .int 0, .ref m_image, .int 0]))] s.heap := hP
  have hl := lv_entry ([.ref mo]) (n := 1) (Nat.le_of_ble_eq_true rfl)
  rw [lg_entry_eq]
  generalize (lg_sl ([.ref mo]) ++ List.replicate (1 - (lg_sl ([.ref mo])).length) Slot.unset).toArray = ls at hl ⊢
  have hl : lv_has ls 1 [(0, .ref mo)] := hl
  refine lv_aload_n hx hb dX8_bad_0 rfl (lv_at hl 0 rfl) ?_
  refine lv_aload_n hx hb dX8_bad_1 rfl (lv_at hl 0 rfl) ?_
  refine va_get (D := E.1) (ci := 9) (v := .int (-1)) (C := RX8) (T := TX8) (N := 36) hx hb hts i_d_bad_X8 hown hK hP 0 rfl rfl 7 (by decide) (hts (.fieldLink RX8 103 "HushWatchModel" "wrong" "I") (List.mem_of_getElem? (i := 1) rfl)) (fun _ h9 => h9) rfl dX8_bad_2 ?_
  refine lv_iconst (v := -1) hx hb dX8_bad_5 (by decide) ?_
  refine lv_icmp_ne (tgt := 16) hx hb dX8_bad_6 (by decide) (fun q => absurd (by decide) q) (fun _ => ?_)
  refine lv_aload_n hx hb dX8_bad_9 rfl (lv_at hl 0 rfl) ?_
  refine va_get (D := E.1) (ci := 9) (v := .int 0) (C := RX8) (T := TX8) (N := 36) hx hb hts i_d_bad_X8 hown hK hP 0 rfl rfl 5 (by decide) (hts (.fieldLink RX8 94 "HushWatchModel" "partFrom" "I") (List.mem_of_getElem? (i := 2) rfl)) (fun _ h9 => h9) rfl dX8_bad_10 ?_
  refine lv_goto (tgt := 20) hx hb dX8_bad_13 (by decide) ?_
  refine va_put (D := E.1) (ci := 9) (v := .int 0) (ty := .int) (C := RX8) (T := TX8) (N := 36) hx hb hts i_d_bad_X8 tyX8 tyX8_ok nmX8 hown hK hP hD hS 0 rfl rfl 7 (by decide) (hts (.fieldLink RX8 103 "HushWatchModel" "wrong" "I") (List.mem_of_getElem? (i := 1) rfl)) (fun _ h9 => h9) rfl (by decide +kernel) rfl rfl (Nat.le_of_ble_eq_true rfl) dX8_bad_20 (fun H locs hP hD hS => ?_)
  have hP : va_P E.1 vwCl [(mo, .inr (9, [.int 0, .ref m_tape, .int 0, .int 0, .int 0, .int 0, .int 0, .int 0, .long 0, .int 0, .int rb, .int rg, .int 0, .ref m_readPlace, .ref m_script, .ref m_scriptLong, .int 0, .ref m_now, .ref m_refused, .int 0, .ref m_shareX, .ref m_shareY, .int 0, .int 0, .ref m_askedRow, .int 0, .ref m_kept, .int 0, .long 0, .ref m_aside, .int 0, .int 0, .ref m_spelled, .int 0, .ref m_image, .int 0]))] H := hP
  have hD : va_D A [(mo, .inr (9, [.int 0, .ref m_tape, .int 0, .int 0, .int 0, .int 0, .int 0, .int 0, .long 0, .int 0, .int rb, .int rg, .int 0, .ref m_readPlace, .ref m_script, .ref m_scriptLong, .int 0, .ref m_now, .ref m_refused, .int 0, .ref m_shareX, .ref m_shareY, .int 0, .int 0, .ref m_askedRow, .int 0, .ref m_kept, .int 0, .long 0, .ref m_aside, .int 0, .int 0, .ref m_spelled, .int 0, .ref m_image, .int 0]))] := hD
  have hP9 := hP.sub (ws' := [(mo, .inr (9, [.int 0, .ref m_tape, .int 0, .int 0, .int 0, .int 0, .int 0, .int 0, .long 0, .int 0, .int rb, .int rg, .int 0, .ref m_readPlace, .ref m_script, .ref m_scriptLong, .int 0, .ref m_now, .ref m_refused, .int 0, .ref m_shareX, .ref m_shareY, .int 0, .int 0, .ref m_askedRow, .int 0, .ref m_kept, .int 0, .long 0, .ref m_aside, .int 0, .int 0, .ref m_spelled, .int 0, .ref m_image, .int 0]))]) [0] rfl
  have hD9 := hD.sub (ws' := [(mo, .inr (9, [.int 0, .ref m_tape, .int 0, .int 0, .int 0, .int 0, .int 0, .int 0, .long 0, .int 0, .int rb, .int rg, .int 0, .ref m_readPlace, .ref m_script, .ref m_scriptLong, .int 0, .ref m_now, .ref m_refused, .int 0, .ref m_shareX, .ref m_shareY, .int 0, .int 0, .ref m_askedRow, .int 0, .ref m_kept, .int 0, .long 0, .ref m_aside, .int 0, .int 0, .ref m_spelled, .int 0, .ref m_image, .int 0]))]) [0] (by decide) rfl
  exact W.vret hx hb hr (fun tt ht hW => ⟨⟨(), rfl, trivial, by rw [ht]; exact hP9, hD9⟩, hS.F ht⟩) hS.2.2 dX8_bad_23

def v_d_isWord : List Cond := .code yX8_isWord cX8_isWord 3 (some .boolean) :: ([.fieldLink RX8 83 "HushWatchModel" "part" "I"] ++ (wsX80 ++ ([])))
theorem gw_d_isWord : v_d_isWord.all goodWord = true := by decide +kernel
theorem i_d_isWord_X8 : ∀ w ∈ wsX80, w ∈ v_d_isWord := fun _ h => List.mem_cons_of_mem _ (List.mem_append_right _ (List.mem_append_left _ h))
set_option maxHeartbeats 4000000 in
set_option maxRecDepth 100000 in
theorem d_isWord (l : Launch) (E : EE) (mo m_tape m_readPlace m_script m_scriptLong m_now m_refused m_shareX m_shareY m_askedRow m_kept m_aside m_spelled m_image : Nat) (rb rg : Int32) (p0 : Int64) : Met l yX8_isWord v_d_isWord ({ frames := 0, cells := 0, slots := 0, locals := 0 }) (va_Pc [.ref mo, .long p0] (pP E [(mo, .inr (9, [.int 0, .ref m_tape, .int 0, .int 0, .int 0, .int 0, .int 0, .int (-1), .long 0, .int 0, .int rb, .int rg, .int 0, .ref m_readPlace, .ref m_script, .ref m_scriptLong, .int 0, .ref m_now, .ref m_refused, .int 0, .ref m_shareX, .ref m_shareY, .int 0, .int 0, .ref m_askedRow, .int 0, .ref m_kept, .int 0, .long 0, .ref m_aside, .int 0, .int 0, .ref m_spelled, .int 0, .ref m_image, .int 0]))])) (vp_Si (fun r => r = 0)) 0 0 (fun _ => False) := by
  refine Met.ofW (cc := cX8_isWord) (maxL := 3) (ret := (some .boolean)) (by decide) rfl ?_
  intro p e s m args below meth c s₁ B hml hv
  obtain ⟨rfl, ⟨hK, hN⟩, hP⟩ := hv
  have hx := B.exec
  have hb := B.bytes
  have hr := B.returns
  have hts := atoms_spec (ws := v_d_isWord) B.pre
  have hown : s.vm.findClass RX8 = some m.cls := findClass_of_methodNamed B.named
  have hlocks := B.notSynchronized
  have hP : va_P E.1 vwCl [(mo, .inr (9, [.int 0, .ref m_tape, .int 0, .int 0, .int 0, .int 0, .int 0, .int (-1), .long 0, .int 0, .int rb, .int rg, .int 0, .ref m_readPlace, .ref m_script, .ref m_scriptLong, .int 0, .ref m_now, .ref m_refused, .int 0, .ref m_shareX, .ref m_shareY, .int 0, .int 0, .ref m_askedRow, .int 0, .ref m_kept, .int 0, .long 0, .ref m_aside, .int 0, .int 0, .ref m_spelled, .int 0, .ref m_image, .int 0]))] s.heap := hP
  have hl := lv_entry ([.ref mo, .long p0]) (n := 3) (Nat.le_of_ble_eq_true rfl)
  rw [lg_entry_eq]
  generalize (lg_sl ([.ref mo, .long p0]) ++ List.replicate (3 - (lg_sl ([.ref mo, .long p0])).length) Slot.unset).toArray = ls at hl ⊢
  have hl : lv_has ls 3 [(0, .ref mo), (1, .long p0)] := hl
  refine lv_aload_n hx hb dX8_isWord_0 rfl (lv_at hl 0 rfl) ?_
  refine va_get (D := E.1) (ci := 9) (v := .int 0) (C := RX8) (T := TX8) (N := 36) hx hb hts i_d_isWord_X8 hown hK hP 0 rfl rfl 4 (by decide) (hts (.fieldLink RX8 83 "HushWatchModel" "part" "I") (List.mem_of_getElem? (i := 1) rfl)) (fun _ h9 => h9) rfl dX8_isWord_1 ?_
  refine lv_iconst (v := 1) hx hb dX8_isWord_4 (by decide) ?_
  refine lv_icmp_ne (tgt := 21) hx hb dX8_isWord_5 (by decide) (fun _ => ?_) (fun q => absurd q (by decide))
  refine lv_iconst (v := 0) hx hb dX8_isWord_21 (by decide) ?_
  exact W.zret (v := 0) hx hb hr rfl (fun tt ht hW => ⟨_, rfl, rfl, ht⟩) (fun _ h => by cases h) dX8_isWord_22

def v_d_clause : List Cond := .code yX8_clause cX8_clause 3 (some .int) :: ([.fieldLink RX8 130 "HushWatchModel" "LAW" "J", .fieldLink RX8 133 "HushWatchModel" "BOUND" "J", .fieldLink RX8 136 "HushWatchModel" "GOAL" "J", .fieldLink RX8 139 "HushWatchModel" "SITE" "J", .methodLink RX8 116 yX8_isWord, .instanceMethod yX8_isWord, .selects RX8 yX8_isWord yX8_isWord, .initialized RX8, .methodLink RX8 106 yX8_bad, .instanceMethod yX8_bad, .selects RX8 yX8_bad yX8_bad] ++ (v_d_isWord ++ (v_d_bad ++ ([]))))
theorem gw_d_clause : v_d_clause.all goodWord = true := by decide +kernel
theorem g_d_clause_d_isWord_116 : GoodIn v_d_clause (wsV RX8 116 RX8 yX8_isWord v_d_isWord) := goodIn_app (goodIn_of _ (by decide +kernel)) (goodIn_sub (fun _ h => List.mem_cons_of_mem _ (List.mem_append_right _ (List.mem_append_left _ h))) gw_d_isWord)
theorem g_d_clause_d_bad_106 : GoodIn v_d_clause (wsV RX8 106 RX8 yX8_bad v_d_bad) := goodIn_app (goodIn_of _ (by decide +kernel)) (goodIn_sub (fun _ h => List.mem_cons_of_mem _ (List.mem_append_right _ (List.mem_append_right _ (List.mem_append_left _ h)))) gw_d_bad)
set_option maxHeartbeats 4000000 in
set_option maxRecDepth 100000 in
theorem d_clause (l : Launch) (E : EE) (sz : Nat) (mo m_tape m_readPlace m_script m_scriptLong m_now m_refused m_shareX m_shareY m_askedRow m_kept m_aside m_spelled m_image : Nat) (rb rg : Int32) : Met l yX8_clause v_d_clause ({ frames := 1, cells := 0, slots := 0, locals := 22 }) (va_Pc [.ref mo, .int 0] (pWZ E sz [(mo, .inr (9, [.int 0, .ref m_tape, .int 0, .int 0, .int 0, .int 0, .int 0, .int (-1), .long 0, .int 0, .int rb, .int rg, .int 0, .ref m_readPlace, .ref m_script, .ref m_scriptLong, .int 0, .ref m_now, .ref m_refused, .int 0, .ref m_shareX, .ref m_shareY, .int 0, .int 0, .ref m_askedRow, .int 0, .ref m_kept, .int 0, .long 0, .ref m_aside, .int 0, .int 0, .ref m_spelled, .int 0, .ref m_image, .int 0]))])) (va_Qi (fun r (_u : Unit) => r = 0) (fun (_u : Unit) tt => va_P E.1 vwCl [(mo, .inr (9, [.int 0, .ref m_tape, .int 0, .int 0, .int 0, .int 0, .int 0, .int 0, .long 0, .int 0, .int rb, .int rg, .int 0, .ref m_readPlace, .ref m_script, .ref m_scriptLong, .int 0, .ref m_now, .ref m_refused, .int 0, .ref m_shareX, .ref m_shareY, .int 0, .int 0, .ref m_askedRow, .int 0, .ref m_kept, .int 0, .long 0, .ref m_aside, .int 0, .int 0, .ref m_spelled, .int 0, .ref m_image, .int 0]))] tt.heap ∧ va_D (va_A [(mo, .inr (9, [.int 0, .ref m_tape, .int 0, .int 0, .int 0, .int 0, .int 0, .int (-1), .long 0, .int 0, .int rb, .int rg, .int 0, .ref m_readPlace, .ref m_script, .ref m_scriptLong, .int 0, .ref m_now, .ref m_refused, .int 0, .ref m_shareX, .ref m_shareY, .int 0, .int 0, .ref m_askedRow, .int 0, .ref m_kept, .int 0, .long 0, .ref m_aside, .int 0, .int 0, .ref m_spelled, .int 0, .ref m_image, .int 0]))] sz) [(mo, .inr (9, [.int 0, .ref m_tape, .int 0, .int 0, .int 0, .int 0, .int 0, .int 0, .long 0, .int 0, .int rb, .int rg, .int 0, .ref m_readPlace, .ref m_script, .ref m_scriptLong, .int 0, .ref m_now, .ref m_refused, .int 0, .ref m_shareX, .ref m_shareY, .int 0, .int 0, .ref m_askedRow, .int 0, .ref m_kept, .int 0, .long 0, .ref m_aside, .int 0, .int 0, .ref m_spelled, .int 0, .ref m_image, .int 0]))]) (va_A [(mo, .inr (9, [.int 0, .ref m_tape, .int 0, .int 0, .int 0, .int 0, .int 0, .int (-1), .long 0, .int 0, .int rb, .int rg, .int 0, .ref m_readPlace, .ref m_script, .ref m_scriptLong, .int 0, .ref m_now, .ref m_refused, .int 0, .ref m_shareX, .ref m_shareY, .int 0, .int 0, .ref m_askedRow, .int 0, .ref m_kept, .int 0, .long 0, .ref m_aside, .int 0, .int 0, .ref m_spelled, .int 0, .ref m_image, .int 0]))] sz)) 0 0 (va_A [(mo, .inr (9, [.int 0, .ref m_tape, .int 0, .int 0, .int 0, .int 0, .int 0, .int (-1), .long 0, .int 0, .int rb, .int rg, .int 0, .ref m_readPlace, .ref m_script, .ref m_scriptLong, .int 0, .ref m_now, .ref m_refused, .int 0, .ref m_shareX, .ref m_shareY, .int 0, .int 0, .ref m_askedRow, .int 0, .ref m_kept, .int 0, .long 0, .ref m_aside, .int 0, .int 0, .ref m_spelled, .int 0, .ref m_image, .int 0]))] sz) := by
  refine Met.ofW (cc := cX8_clause) (maxL := 3) (ret := (some .int)) (by decide) rfl ?_
  intro p e s m args below meth c s₁ B hml hv
  obtain ⟨rfl, hsz, ⟨hK, hN⟩, hP, hD0, hZ⟩ := hv
  have hx := B.exec
  have hb := B.bytes
  have hr := B.returns
  have hts := atoms_spec (ws := v_d_clause) B.pre
  have hown : s.vm.findClass RX8 = some m.cls := findClass_of_methodNamed B.named
  have hlocks := B.notSynchronized
  subst hsz
  have hD := hD0.self (sz := s.heap.size)
  generalize hAe : va_A [(mo, .inr (9, [.int 0, .ref m_tape, .int 0, .int 0, .int 0, .int 0, .int 0, .int (-1), .long 0, .int 0, .int rb, .int rg, .int 0, .ref m_readPlace, .ref m_script, .ref m_scriptLong, .int 0, .ref m_now, .ref m_refused, .int 0, .ref m_shareX, .ref m_shareY, .int 0, .int 0, .ref m_askedRow, .int 0, .ref m_kept, .int 0, .long 0, .ref m_aside, .int 0, .int 0, .ref m_spelled, .int 0, .ref m_image, .int 0]))] s.heap.size = A at hD hZ ⊢
  have hA : ∀ q : Nat, s.heap.size ≤ q → A q := fun q h => by rw [← hAe]; exact Or.inr h
  have hS : va_S A s.heap s.heap [] := va_S.rf
  have hP : va_P E.1 vwCl [(mo, .inr (9, [.int 0, .ref m_tape, .int 0, .int 0, .int 0, .int 0, .int 0, .int (-1), .long 0, .int 0, .int rb, .int rg, .int 0, .ref m_readPlace, .ref m_script, .ref m_scriptLong, .int 0, .ref m_now, .ref m_refused, .int 0, .ref m_shareX, .ref m_shareY, .int 0, .int 0, .ref m_askedRow, .int 0, .ref m_kept, .int 0, .long 0, .ref m_aside, .int 0, .int 0, .ref m_spelled, .int 0, .ref m_image, .int 0]))] s.heap := hP
  have hl := lv_entry ([.ref mo, .int 0]) (n := 3) (Nat.le_of_ble_eq_true rfl)
  rw [lg_entry_eq]
  generalize (lg_sl ([.ref mo, .int 0]) ++ List.replicate (3 - (lg_sl ([.ref mo, .int 0])).length) Slot.unset).toArray = ls at hl ⊢
  have hl : lv_has ls 3 [(0, .ref mo), (1, .int 0)] := hl
  refine lv_aload_n hx hb dX8_clause_0 rfl (lv_at hl 0 rfl) ?_
  refine va_gets hx hb hZ.1 hS hown (hts (.fieldLink RX8 130 "HushWatchModel" "LAW" "J") (List.mem_of_getElem? (i := 1) rfl)) (fun _ h9 => h9) dX8_clause_1 ?_
  have hPc := hP.sub (ws' := [(mo, .inr (9, [.int 0, .ref m_tape, .int 0, .int 0, .int 0, .int 0, .int 0, .int (-1), .long 0, .int 0, .int rb, .int rg, .int 0, .ref m_readPlace, .ref m_script, .ref m_scriptLong, .int 0, .ref m_now, .ref m_refused, .int 0, .ref m_shareX, .ref m_shareY, .int 0, .int 0, .ref m_askedRow, .int 0, .ref m_kept, .int 0, .long 0, .ref m_aside, .int 0, .int 0, .ref m_spelled, .int 0, .ref m_image, .int 0]))]) [0] rfl
  refine pc_i (va_runV (As := [.long 12343]) (rest := []) ⟨hx, hb, hml, hown, hts⟩ (d_isWord l E mo m_tape m_readPlace m_script m_scriptLong m_now m_refused m_shareX m_shareY m_askedRow m_kept m_aside m_spelled m_image rb rg 12343) (cwV 1 hts g_d_clause_d_isWord_116 rfl rfl rfl (by decide +kernel) ⟨Nat.le_of_ble_eq_true rfl, Nat.le_of_ble_eq_true rfl⟩) ⟨pP.blind, va_recv hK hPc (ci := 9) (q0 := 0) rfl rfl, (pP.pre ⟨hK, hN⟩ hPc)⟩ rfl rfl hl.1 rfl (lv_room (Nat.le_of_ble_eq_true rfl)) dX8_clause_4 ⟨Nat.le_of_ble_eq_true rfl, Nat.le_of_ble_eq_true rfl⟩) (fun r_1 hr_1 => ?_)
  obtain rfl : r_1 = 0 := hr_1
  refine lv_if_eq (tgt := 14) hx hb dX8_clause_7 (by decide) (fun _ => ?_) (fun q => absurd (by decide) q)
  refine lv_aload_n hx hb dX8_clause_14 rfl (lv_at hl 0 rfl) ?_
  refine va_gets hx hb hZ.2.1 hS hown (hts (.fieldLink RX8 133 "HushWatchModel" "BOUND" "J") (List.mem_of_getElem? (i := 2) rfl)) (fun _ h9 => h9) dX8_clause_15 ?_
  have hPc := hP.sub (ws' := [(mo, .inr (9, [.int 0, .ref m_tape, .int 0, .int 0, .int 0, .int 0, .int 0, .int (-1), .long 0, .int 0, .int rb, .int rg, .int 0, .ref m_readPlace, .ref m_script, .ref m_scriptLong, .int 0, .ref m_now, .ref m_refused, .int 0, .ref m_shareX, .ref m_shareY, .int 0, .int 0, .ref m_askedRow, .int 0, .ref m_kept, .int 0, .long 0, .ref m_aside, .int 0, .int 0, .ref m_spelled, .int 0, .ref m_image, .int 0]))]) [0] rfl
  refine pc_i (va_runV (As := [.long 2610628]) (rest := []) ⟨hx, hb, hml, hown, hts⟩ (d_isWord l E mo m_tape m_readPlace m_script m_scriptLong m_now m_refused m_shareX m_shareY m_askedRow m_kept m_aside m_spelled m_image rb rg 2610628) (cwV 1 hts g_d_clause_d_isWord_116 rfl rfl rfl (by decide +kernel) ⟨Nat.le_of_ble_eq_true rfl, Nat.le_of_ble_eq_true rfl⟩) ⟨pP.blind, va_recv hK hPc (ci := 9) (q0 := 0) rfl rfl, (pP.pre ⟨hK, hN⟩ hPc)⟩ rfl rfl hl.1 rfl (lv_room (Nat.le_of_ble_eq_true rfl)) dX8_clause_18 ⟨Nat.le_of_ble_eq_true rfl, Nat.le_of_ble_eq_true rfl⟩) (fun r_2 hr_2 => ?_)
  obtain rfl : r_2 = 0 := hr_2
  refine lv_if_eq (tgt := 28) hx hb dX8_clause_21 (by decide) (fun _ => ?_) (fun q => absurd (by decide) q)
  refine lv_aload_n hx hb dX8_clause_28 rfl (lv_at hl 0 rfl) ?_
  refine va_gets hx hb hZ.2.2.1 hS hown (hts (.fieldLink RX8 136 "HushWatchModel" "GOAL" "J") (List.mem_of_getElem? (i := 3) rfl)) (fun _ h9 => h9) dX8_clause_29 ?_
  have hPc := hP.sub (ws' := [(mo, .inr (9, [.int 0, .ref m_tape, .int 0, .int 0, .int 0, .int 0, .int 0, .int (-1), .long 0, .int 0, .int rb, .int rg, .int 0, .ref m_readPlace, .ref m_script, .ref m_scriptLong, .int 0, .ref m_now, .ref m_refused, .int 0, .ref m_shareX, .ref m_shareY, .int 0, .int 0, .ref m_askedRow, .int 0, .ref m_kept, .int 0, .long 0, .ref m_aside, .int 0, .int 0, .ref m_spelled, .int 0, .ref m_image, .int 0]))]) [0] rfl
  refine pc_i (va_runV (As := [.long 244780]) (rest := []) ⟨hx, hb, hml, hown, hts⟩ (d_isWord l E mo m_tape m_readPlace m_script m_scriptLong m_now m_refused m_shareX m_shareY m_askedRow m_kept m_aside m_spelled m_image rb rg 244780) (cwV 1 hts g_d_clause_d_isWord_116 rfl rfl rfl (by decide +kernel) ⟨Nat.le_of_ble_eq_true rfl, Nat.le_of_ble_eq_true rfl⟩) ⟨pP.blind, va_recv hK hPc (ci := 9) (q0 := 0) rfl rfl, (pP.pre ⟨hK, hN⟩ hPc)⟩ rfl rfl hl.1 rfl (lv_room (Nat.le_of_ble_eq_true rfl)) dX8_clause_32 ⟨Nat.le_of_ble_eq_true rfl, Nat.le_of_ble_eq_true rfl⟩) (fun r_3 hr_3 => ?_)
  obtain rfl : r_3 = 0 := hr_3
  refine lv_if_eq (tgt := 42) hx hb dX8_clause_35 (by decide) (fun _ => ?_) (fun q => absurd (by decide) q)
  refine lv_aload_n hx hb dX8_clause_42 rfl (lv_at hl 0 rfl) ?_
  refine va_gets hx hb hZ.2.2.2.1 hS hown (hts (.fieldLink RX8 139 "HushWatchModel" "SITE" "J") (List.mem_of_getElem? (i := 4) rfl)) (fun _ h9 => h9) dX8_clause_43 ?_
  have hPc := hP.sub (ws' := [(mo, .inr (9, [.int 0, .ref m_tape, .int 0, .int 0, .int 0, .int 0, .int 0, .int (-1), .long 0, .int 0, .int rb, .int rg, .int 0, .ref m_readPlace, .ref m_script, .ref m_scriptLong, .int 0, .ref m_now, .ref m_refused, .int 0, .ref m_shareX, .ref m_shareY, .int 0, .int 0, .ref m_askedRow, .int 0, .ref m_kept, .int 0, .long 0, .ref m_aside, .int 0, .int 0, .ref m_spelled, .int 0, .ref m_image, .int 0]))]) [0] rfl
  refine pc_i (va_runV (As := [.long 632453]) (rest := []) ⟨hx, hb, hml, hown, hts⟩ (d_isWord l E mo m_tape m_readPlace m_script m_scriptLong m_now m_refused m_shareX m_shareY m_askedRow m_kept m_aside m_spelled m_image rb rg 632453) (cwV 1 hts g_d_clause_d_isWord_116 rfl rfl rfl (by decide +kernel) ⟨Nat.le_of_ble_eq_true rfl, Nat.le_of_ble_eq_true rfl⟩) ⟨pP.blind, va_recv hK hPc (ci := 9) (q0 := 0) rfl rfl, (pP.pre ⟨hK, hN⟩ hPc)⟩ rfl rfl hl.1 rfl (lv_room (Nat.le_of_ble_eq_true rfl)) dX8_clause_46 ⟨Nat.le_of_ble_eq_true rfl, Nat.le_of_ble_eq_true rfl⟩) (fun r_4 hr_4 => ?_)
  obtain rfl : r_4 = 0 := hr_4
  refine lv_if_eq (tgt := 56) hx hb dX8_clause_49 (by decide) (fun _ => ?_) (fun q => absurd (by decide) q)
  refine lv_iconst (v := -1) hx hb dX8_clause_56 (by decide) ?_
  refine lv_istore_n (lv' := [(2, .int (-1)), (0, .ref mo), (1, .int 0)]) hx hb dX8_clause_57 rfl hl (by decide) rfl (fun ls hl => ?_)
  refine lv_iload_n hx hb dX8_clause_58 rfl (lv_at hl 0 rfl) ?_
  refine lv_iconst (v := -1) hx hb dX8_clause_59 (by decide) ?_
  refine lv_icmp_eq (tgt := 90) hx hb dX8_clause_60 (by decide) (fun _ => ?_) (fun q => absurd (by decide) q)
  refine lv_aload_n hx hb dX8_clause_90 rfl (lv_at hl 1 rfl) ?_
  have hPc := hP.sub (ws' := [(mo, .inr (9, [.int 0, .ref m_tape, .int 0, .int 0, .int 0, .int 0, .int 0, .int (-1), .long 0, .int 0, .int rb, .int rg, .int 0, .ref m_readPlace, .ref m_script, .ref m_scriptLong, .int 0, .ref m_now, .ref m_refused, .int 0, .ref m_shareX, .ref m_shareY, .int 0, .int 0, .ref m_askedRow, .int 0, .ref m_kept, .int 0, .long 0, .ref m_aside, .int 0, .int 0, .ref m_spelled, .int 0, .ref m_image, .int 0]))]) [0] rfl
  have hDc := hD.sub (ws' := [(mo, .inr (9, [.int 0, .ref m_tape, .int 0, .int 0, .int 0, .int 0, .int 0, .int (-1), .long 0, .int 0, .int rb, .int rg, .int 0, .ref m_readPlace, .ref m_script, .ref m_scriptLong, .int 0, .ref m_now, .ref m_refused, .int 0, .ref m_shareX, .ref m_shareY, .int 0, .int 0, .ref m_askedRow, .int 0, .ref m_kept, .int 0, .long 0, .ref m_aside, .int 0, .int 0, .ref m_spelled, .int 0, .ref m_image, .int 0]))]) [0] (by decide) rfl
  have hFc := va_free (wc := [(mo, .inr (9, [.int 0, .ref m_tape, .int 0, .int 0, .int 0, .int 0, .int 0, .int (-1), .long 0, .int 0, .int rb, .int rg, .int 0, .ref m_readPlace, .ref m_script, .ref m_scriptLong, .int 0, .ref m_now, .ref m_refused, .int 0, .ref m_shareX, .ref m_shareY, .int 0, .int 0, .ref m_askedRow, .int 0, .ref m_kept, .int 0, .long 0, .ref m_aside, .int 0, .int 0, .ref m_spelled, .int 0, .ref m_image, .int 0]))]) hD hS hA [0] rfl
  refine va_callv (va_runV (As := []) (rest := []) ⟨hx, hb, hml, hown, hts⟩ (d_bad l E s.heap.size mo m_tape m_readPlace m_script m_scriptLong m_now m_refused m_shareX m_shareY m_askedRow m_kept m_aside m_spelled m_image rb rg) (cwV 0 hts g_d_clause_d_bad_106 rfl rfl rfl (by decide +kernel) ⟨Nat.le_of_ble_eq_true rfl, Nat.le_of_ble_eq_true rfl⟩) ⟨pW.blind, va_recv hK hPc (ci := 9) (q0 := 0) rfl rfl, (pW.pre ⟨hK, hN⟩ hPc hDc)⟩ rfl rfl hl.1 rfl (lv_room (Nat.le_of_ble_eq_true rfl)) dX8_clause_91 ⟨Nat.le_of_ble_eq_true rfl, Nat.le_of_ble_eq_true rfl⟩) hS (fun q _ h => hFc q h) hFc (fun  u tt H1 locs ht hvm hw hB hz1 hk1 hS => ?_)
  obtain ⟨hP1, hD1⟩ := hB
  rw [ht] at hP1
  obtain ⟨hP, hD⟩ := va_join (wr := []) (w1 := [(mo, .inr (9, [.int 0, .ref m_tape, .int 0, .int 0, .int 0, .int 0, .int 0, .int 0, .long 0, .int 0, .int rb, .int rg, .int 0, .ref m_readPlace, .ref m_script, .ref m_scriptLong, .int 0, .ref m_now, .ref m_refused, .int 0, .ref m_shareX, .ref m_shareY, .int 0, .int 0, .ref m_askedRow, .int 0, .ref m_kept, .int 0, .long 0, .ref m_aside, .int 0, .int 0, .ref m_spelled, .int 0, .ref m_image, .int 0]))]) hP hD [0] [] rfl rfl (by decide) (by decide) hk1 hFc hP1 hD1
  generalize H1 = H at hP hS ⊢
  have hP : va_P E.1 vwCl [(mo, .inr (9, [.int 0, .ref m_tape, .int 0, .int 0, .int 0, .int 0, .int 0, .int 0, .long 0, .int 0, .int rb, .int rg, .int 0, .ref m_readPlace, .ref m_script, .ref m_scriptLong, .int 0, .ref m_now, .ref m_refused, .int 0, .ref m_shareX, .ref m_shareY, .int 0, .int 0, .ref m_askedRow, .int 0, .ref m_kept, .int 0, .long 0, .ref m_aside, .int 0, .int 0, .ref m_spelled, .int 0, .ref m_image, .int 0]))] H := hP
  have hD : va_D A [(mo, .inr (9, [.int 0, .ref m_tape, .int 0, .int 0, .int 0, .int 0, .int 0, .int 0, .long 0, .int 0, .int rb, .int rg, .int 0, .ref m_readPlace, .ref m_script, .ref m_scriptLong, .int 0, .ref m_now, .ref m_refused, .int 0, .ref m_shareX, .ref m_shareY, .int 0, .int 0, .ref m_askedRow, .int 0, .ref m_kept, .int 0, .long 0, .ref m_aside, .int 0, .int 0, .ref m_spelled, .int 0, .ref m_image, .int 0]))] := hD
  refine lv_iload_n hx hb dX8_clause_94 rfl (lv_at hl 2 rfl) ?_
  have hP9 := hP.sub (ws' := [(mo, .inr (9, [.int 0, .ref m_tape, .int 0, .int 0, .int 0, .int 0, .int 0, .int 0, .long 0, .int 0, .int rb, .int rg, .int 0, .ref m_readPlace, .ref m_script, .ref m_scriptLong, .int 0, .ref m_now, .ref m_refused, .int 0, .ref m_shareX, .ref m_shareY, .int 0, .int 0, .ref m_askedRow, .int 0, .ref m_kept, .int 0, .long 0, .ref m_aside, .int 0, .int 0, .ref m_spelled, .int 0, .ref m_image, .int 0]))]) [0] rfl
  have hD9 := hD.sub (ws' := [(mo, .inr (9, [.int 0, .ref m_tape, .int 0, .int 0, .int 0, .int 0, .int 0, .int 0, .long 0, .int 0, .int rb, .int rg, .int 0, .ref m_readPlace, .ref m_script, .ref m_scriptLong, .int 0, .ref m_now, .ref m_refused, .int 0, .ref m_shareX, .ref m_shareY, .int 0, .int 0, .ref m_askedRow, .int 0, .ref m_kept, .int 0, .long 0, .ref m_aside, .int 0, .int 0, .ref m_spelled, .int 0, .ref m_image, .int 0]))]) [0] (by decide) rfl
  exact W.iret (v := 0) hx hb hr (fun tt ht hW => ⟨⟨_, (), rfl, rfl, by rw [ht]; exact hP9, hD9⟩, hS.F ht⟩) hS.2.2 dX8_clause_95

def v_d_readWatch : List Cond := .code yX8_readWatch cX8_readWatch 3 (some .int) :: ([.fieldLink RX8 149 "HushWatchModel" "readLaw" "I", .fieldLink RX8 154 "HushWatchModel" "readBound" "I", .fieldLink RX8 157 "HushWatchModel" "readGoal" "I", .fieldLink RX8 120 "HushWatchModel" "readSites" "I", .fieldLink RX8 103 "HushWatchModel" "wrong" "I", .methodLink RX8 163 yX8_begins, .instanceMethod yX8_begins, .selects RX8 yX8_begins yX8_begins, .initialized RX8, .methodLink RX8 166 yX8_clause, .instanceMethod yX8_clause, .selects RX8 yX8_clause yX8_clause] ++ (v_d_begins ++ (wsX80 ++ (v_d_clause ++ ([])))))
theorem gw_d_readWatch : v_d_readWatch.all goodWord = true := by decide +kernel
theorem i_d_readWatch_X8 : ∀ w ∈ wsX80, w ∈ v_d_readWatch := fun _ h => List.mem_cons_of_mem _ (List.mem_append_right _ (List.mem_append_right _ (List.mem_append_left _ h)))
theorem g_d_readWatch_d_begins_163 : GoodIn v_d_readWatch (wsV RX8 163 RX8 yX8_begins v_d_begins) := goodIn_app (goodIn_of _ (by decide +kernel)) (goodIn_sub (fun _ h => List.mem_cons_of_mem _ (List.mem_append_right _ (List.mem_append_left _ h))) gw_d_begins)
theorem g_d_readWatch_d_clause_166 : GoodIn v_d_readWatch (wsV RX8 166 RX8 yX8_clause v_d_clause) := goodIn_app (goodIn_of _ (by decide +kernel)) (goodIn_sub (fun _ h => List.mem_cons_of_mem _ (List.mem_append_right _ (List.mem_append_right _ (List.mem_append_right _ (List.mem_append_left _ h))))) gw_d_clause)
set_option maxHeartbeats 4000000 in
set_option maxRecDepth 100000 in
theorem d_readWatch (l : Launch) (E : EE) (sz : Nat) (mo m_tape m_readPlace m_script m_scriptLong m_now m_refused m_shareX m_shareY m_askedRow m_kept m_aside m_spelled m_image : Nat) : Met l yX8_readWatch v_d_readWatch ({ frames := 3, cells := 0, slots := 0, locals := 61 }) (va_Pc [.ref mo] (pWZ E sz [(mo, .inr (9, [.int 0, .ref m_tape, .int 0, .int 0, .int 0, .int 0, .int 0, .int 0, .long 0, .int 0, .int 0, .int 0, .int 0, .ref m_readPlace, .ref m_script, .ref m_scriptLong, .int 0, .ref m_now, .ref m_refused, .int 0, .ref m_shareX, .ref m_shareY, .int 0, .int 0, .ref m_askedRow, .int 0, .ref m_kept, .int 0, .long 0, .ref m_aside, .int 0, .int 0, .ref m_spelled, .int 0, .ref m_image, .int 0]))])) (va_Qi (fun r (_u : Unit) => r = 0) (fun (_u : Unit) tt => va_P E.1 vwCl [] tt.heap ∧ va_D (va_A [(mo, .inr (9, [.int 0, .ref m_tape, .int 0, .int 0, .int 0, .int 0, .int 0, .int 0, .long 0, .int 0, .int 0, .int 0, .int 0, .ref m_readPlace, .ref m_script, .ref m_scriptLong, .int 0, .ref m_now, .ref m_refused, .int 0, .ref m_shareX, .ref m_shareY, .int 0, .int 0, .ref m_askedRow, .int 0, .ref m_kept, .int 0, .long 0, .ref m_aside, .int 0, .int 0, .ref m_spelled, .int 0, .ref m_image, .int 0]))] sz) []) (va_A [(mo, .inr (9, [.int 0, .ref m_tape, .int 0, .int 0, .int 0, .int 0, .int 0, .int 0, .long 0, .int 0, .int 0, .int 0, .int 0, .ref m_readPlace, .ref m_script, .ref m_scriptLong, .int 0, .ref m_now, .ref m_refused, .int 0, .ref m_shareX, .ref m_shareY, .int 0, .int 0, .ref m_askedRow, .int 0, .ref m_kept, .int 0, .long 0, .ref m_aside, .int 0, .int 0, .ref m_spelled, .int 0, .ref m_image, .int 0]))] sz)) 0 0 (va_A [(mo, .inr (9, [.int 0, .ref m_tape, .int 0, .int 0, .int 0, .int 0, .int 0, .int 0, .long 0, .int 0, .int 0, .int 0, .int 0, .ref m_readPlace, .ref m_script, .ref m_scriptLong, .int 0, .ref m_now, .ref m_refused, .int 0, .ref m_shareX, .ref m_shareY, .int 0, .int 0, .ref m_askedRow, .int 0, .ref m_kept, .int 0, .long 0, .ref m_aside, .int 0, .int 0, .ref m_spelled, .int 0, .ref m_image, .int 0]))] sz) := by
  refine Met.ofW (cc := cX8_readWatch) (maxL := 3) (ret := (some .int)) (by decide) rfl ?_
  intro p e s m args below meth c s₁ B hml hv
  obtain ⟨rfl, hsz, ⟨hK, hN⟩, hP, hD0, hZ⟩ := hv
  have hx := B.exec
  have hb := B.bytes
  have hr := B.returns
  have hts := atoms_spec (ws := v_d_readWatch) B.pre
  have hown : s.vm.findClass RX8 = some m.cls := findClass_of_methodNamed B.named
  have hlocks := B.notSynchronized
  subst hsz
  have hD := hD0.self (sz := s.heap.size)
  generalize hAe : va_A [(mo, .inr (9, [.int 0, .ref m_tape, .int 0, .int 0, .int 0, .int 0, .int 0, .int 0, .long 0, .int 0, .int 0, .int 0, .int 0, .ref m_readPlace, .ref m_script, .ref m_scriptLong, .int 0, .ref m_now, .ref m_refused, .int 0, .ref m_shareX, .ref m_shareY, .int 0, .int 0, .ref m_askedRow, .int 0, .ref m_kept, .int 0, .long 0, .ref m_aside, .int 0, .int 0, .ref m_spelled, .int 0, .ref m_image, .int 0]))] s.heap.size = A at hD hZ ⊢
  have hA : ∀ q : Nat, s.heap.size ≤ q → A q := fun q h => by rw [← hAe]; exact Or.inr h
  have hS : va_S A s.heap s.heap [] := va_S.rf
  have hP : va_P E.1 vwCl [(mo, .inr (9, [.int 0, .ref m_tape, .int 0, .int 0, .int 0, .int 0, .int 0, .int 0, .long 0, .int 0, .int 0, .int 0, .int 0, .ref m_readPlace, .ref m_script, .ref m_scriptLong, .int 0, .ref m_now, .ref m_refused, .int 0, .ref m_shareX, .ref m_shareY, .int 0, .int 0, .ref m_askedRow, .int 0, .ref m_kept, .int 0, .long 0, .ref m_aside, .int 0, .int 0, .ref m_spelled, .int 0, .ref m_image, .int 0]))] s.heap := hP
  have hl := lv_entry ([.ref mo]) (n := 3) (Nat.le_of_ble_eq_true rfl)
  rw [lg_entry_eq]
  generalize (lg_sl ([.ref mo]) ++ List.replicate (3 - (lg_sl ([.ref mo])).length) Slot.unset).toArray = ls at hl ⊢
  have hl : lv_has ls 3 [(0, .ref mo)] := hl
  refine lv_aload_n hx hb dX8_readWatch_0 rfl (lv_at hl 0 rfl) ?_
  have hPc := hP.sub (ws' := [(mo, .inr (9, [.int 0, .ref m_tape, .int 0, .int 0, .int 0, .int 0, .int 0, .int 0, .long 0, .int 0, .int 0, .int 0, .int 0, .ref m_readPlace, .ref m_script, .ref m_scriptLong, .int 0, .ref m_now, .ref m_refused, .int 0, .ref m_shareX, .ref m_shareY, .int 0, .int 0, .ref m_askedRow, .int 0, .ref m_kept, .int 0, .long 0, .ref m_aside, .int 0, .int 0, .ref m_spelled, .int 0, .ref m_image, .int 0]))]) [0] rfl
  have hDc := hD.sub (ws' := [(mo, .inr (9, [.int 0, .ref m_tape, .int 0, .int 0, .int 0, .int 0, .int 0, .int 0, .long 0, .int 0, .int 0, .int 0, .int 0, .ref m_readPlace, .ref m_script, .ref m_scriptLong, .int 0, .ref m_now, .ref m_refused, .int 0, .ref m_shareX, .ref m_shareY, .int 0, .int 0, .ref m_askedRow, .int 0, .ref m_kept, .int 0, .long 0, .ref m_aside, .int 0, .int 0, .ref m_spelled, .int 0, .ref m_image, .int 0]))]) [0] (by decide) rfl
  have hFc := va_free (wc := [(mo, .inr (9, [.int 0, .ref m_tape, .int 0, .int 0, .int 0, .int 0, .int 0, .int 0, .long 0, .int 0, .int 0, .int 0, .int 0, .ref m_readPlace, .ref m_script, .ref m_scriptLong, .int 0, .ref m_now, .ref m_refused, .int 0, .ref m_shareX, .ref m_shareY, .int 0, .int 0, .ref m_askedRow, .int 0, .ref m_kept, .int 0, .long 0, .ref m_aside, .int 0, .int 0, .ref m_spelled, .int 0, .ref m_image, .int 0]))]) hD hS hA [0] rfl
  refine va_callv (va_runV (As := []) (rest := []) ⟨hx, hb, hml, hown, hts⟩ (d_begins l E s.heap.size mo m_tape m_readPlace m_script m_scriptLong m_now m_refused m_shareX m_shareY m_askedRow m_kept m_aside m_spelled m_image) (cwV 0 hts g_d_readWatch_d_begins_163 rfl rfl rfl (by decide +kernel) ⟨Nat.le_of_ble_eq_true rfl, Nat.le_of_ble_eq_true rfl⟩) ⟨pW.blind, va_recv hK hPc (ci := 9) (q0 := 0) rfl rfl, (pW.pre ⟨hK, hN⟩ hPc hDc)⟩ rfl rfl hl.1 rfl (lv_room (Nat.le_of_ble_eq_true rfl)) dX8_readWatch_1 ⟨Nat.le_of_ble_eq_true rfl, Nat.le_of_ble_eq_true rfl⟩) hS (fun q _ h => hFc q h) hFc (fun  u tt H1 locs ht hvm hw hB hz1 hk1 hS => ?_)
  obtain ⟨hP1, hD1⟩ := hB
  rw [ht] at hP1
  obtain ⟨hP, hD⟩ := va_join (wr := []) (w1 := [(mo, .inr (9, [.int 0, .ref m_tape, .int 0, .int 0, .int 0, .int 0, .int 0, .int (-1), .long 0, .int 0, .int 0, .int 0, .int 0, .ref m_readPlace, .ref m_script, .ref m_scriptLong, .int 0, .ref m_now, .ref m_refused, .int 0, .ref m_shareX, .ref m_shareY, .int 0, .int 0, .ref m_askedRow, .int 0, .ref m_kept, .int 0, .long 0, .ref m_aside, .int 0, .int 0, .ref m_spelled, .int 0, .ref m_image, .int 0]))]) hP hD [0] [] rfl rfl (by decide) (by decide) hk1 hFc hP1 hD1
  generalize H1 = H at hP hS ⊢
  have hP : va_P E.1 vwCl [(mo, .inr (9, [.int 0, .ref m_tape, .int 0, .int 0, .int 0, .int 0, .int 0, .int (-1), .long 0, .int 0, .int 0, .int 0, .int 0, .ref m_readPlace, .ref m_script, .ref m_scriptLong, .int 0, .ref m_now, .ref m_refused, .int 0, .ref m_shareX, .ref m_shareY, .int 0, .int 0, .ref m_askedRow, .int 0, .ref m_kept, .int 0, .long 0, .ref m_aside, .int 0, .int 0, .ref m_spelled, .int 0, .ref m_image, .int 0]))] H := hP
  have hD : va_D A [(mo, .inr (9, [.int 0, .ref m_tape, .int 0, .int 0, .int 0, .int 0, .int 0, .int (-1), .long 0, .int 0, .int 0, .int 0, .int 0, .ref m_readPlace, .ref m_script, .ref m_scriptLong, .int 0, .ref m_now, .ref m_refused, .int 0, .ref m_shareX, .ref m_shareY, .int 0, .int 0, .ref m_askedRow, .int 0, .ref m_kept, .int 0, .long 0, .ref m_aside, .int 0, .int 0, .ref m_spelled, .int 0, .ref m_image, .int 0]))] := hD
  refine lv_aload_n hx hb dX8_readWatch_4 rfl (lv_at hl 0 rfl) ?_
  refine lv_iconst (v := 0) hx hb dX8_readWatch_5 (by decide) ?_
  refine va_put (D := E.1) (ci := 9) (v := .int 0) (ty := .int) (C := RX8) (T := TX8) (N := 36) hx hb hts i_d_readWatch_X8 tyX8 tyX8_ok nmX8 hown hK hP hD hS 0 rfl rfl 9 (by decide) (hts (.fieldLink RX8 149 "HushWatchModel" "readLaw" "I") (List.mem_of_getElem? (i := 1) rfl)) (fun _ h9 => h9) rfl (by decide +kernel) rfl rfl (Nat.le_of_ble_eq_true rfl) dX8_readWatch_6 (fun H locs hP hD hS => ?_)
  have hP : va_P E.1 vwCl [(mo, .inr (9, [.int 0, .ref m_tape, .int 0, .int 0, .int 0, .int 0, .int 0, .int (-1), .long 0, .int 0, .int 0, .int 0, .int 0, .ref m_readPlace, .ref m_script, .ref m_scriptLong, .int 0, .ref m_now, .ref m_refused, .int 0, .ref m_shareX, .ref m_shareY, .int 0, .int 0, .ref m_askedRow, .int 0, .ref m_kept, .int 0, .long 0, .ref m_aside, .int 0, .int 0, .ref m_spelled, .int 0, .ref m_image, .int 0]))] H := hP
  have hD : va_D A [(mo, .inr (9, [.int 0, .ref m_tape, .int 0, .int 0, .int 0, .int 0, .int 0, .int (-1), .long 0, .int 0, .int 0, .int 0, .int 0, .ref m_readPlace, .ref m_script, .ref m_scriptLong, .int 0, .ref m_now, .ref m_refused, .int 0, .ref m_shareX, .ref m_shareY, .int 0, .int 0, .ref m_askedRow, .int 0, .ref m_kept, .int 0, .long 0, .ref m_aside, .int 0, .int 0, .ref m_spelled, .int 0, .ref m_image, .int 0]))] := hD
  refine lv_aload_n hx hb dX8_readWatch_9 rfl (lv_at hl 0 rfl) ?_
  refine lv_sipush (v := 1000) hx hb dX8_readWatch_10 (by decide) ?_
  refine va_put (D := E.1) (ci := 9) (v := .int 1000) (ty := .int) (C := RX8) (T := TX8) (N := 36) hx hb hts i_d_readWatch_X8 tyX8 tyX8_ok nmX8 hown hK hP hD hS 0 rfl rfl 10 (by decide) (hts (.fieldLink RX8 154 "HushWatchModel" "readBound" "I") (List.mem_of_getElem? (i := 2) rfl)) (fun _ h9 => h9) rfl (by decide +kernel) rfl rfl (Nat.le_of_ble_eq_true rfl) dX8_readWatch_13 (fun H locs hP hD hS => ?_)
  have hP : va_P E.1 vwCl [(mo, .inr (9, [.int 0, .ref m_tape, .int 0, .int 0, .int 0, .int 0, .int 0, .int (-1), .long 0, .int 0, .int 1000, .int 0, .int 0, .ref m_readPlace, .ref m_script, .ref m_scriptLong, .int 0, .ref m_now, .ref m_refused, .int 0, .ref m_shareX, .ref m_shareY, .int 0, .int 0, .ref m_askedRow, .int 0, .ref m_kept, .int 0, .long 0, .ref m_aside, .int 0, .int 0, .ref m_spelled, .int 0, .ref m_image, .int 0]))] H := hP
  have hD : va_D A [(mo, .inr (9, [.int 0, .ref m_tape, .int 0, .int 0, .int 0, .int 0, .int 0, .int (-1), .long 0, .int 0, .int 1000, .int 0, .int 0, .ref m_readPlace, .ref m_script, .ref m_scriptLong, .int 0, .ref m_now, .ref m_refused, .int 0, .ref m_shareX, .ref m_shareY, .int 0, .int 0, .ref m_askedRow, .int 0, .ref m_kept, .int 0, .long 0, .ref m_aside, .int 0, .int 0, .ref m_spelled, .int 0, .ref m_image, .int 0]))] := hD
  refine lv_aload_n hx hb dX8_readWatch_16 rfl (lv_at hl 0 rfl) ?_
  refine lv_bipush (v := 100) hx hb dX8_readWatch_17 (by decide) ?_
  refine va_put (D := E.1) (ci := 9) (v := .int 100) (ty := .int) (C := RX8) (T := TX8) (N := 36) hx hb hts i_d_readWatch_X8 tyX8 tyX8_ok nmX8 hown hK hP hD hS 0 rfl rfl 11 (by decide) (hts (.fieldLink RX8 157 "HushWatchModel" "readGoal" "I") (List.mem_of_getElem? (i := 3) rfl)) (fun _ h9 => h9) rfl (by decide +kernel) rfl rfl (Nat.le_of_ble_eq_true rfl) dX8_readWatch_19 (fun H locs hP hD hS => ?_)
  have hP : va_P E.1 vwCl [(mo, .inr (9, [.int 0, .ref m_tape, .int 0, .int 0, .int 0, .int 0, .int 0, .int (-1), .long 0, .int 0, .int 1000, .int 100, .int 0, .ref m_readPlace, .ref m_script, .ref m_scriptLong, .int 0, .ref m_now, .ref m_refused, .int 0, .ref m_shareX, .ref m_shareY, .int 0, .int 0, .ref m_askedRow, .int 0, .ref m_kept, .int 0, .long 0, .ref m_aside, .int 0, .int 0, .ref m_spelled, .int 0, .ref m_image, .int 0]))] H := hP
  have hD : va_D A [(mo, .inr (9, [.int 0, .ref m_tape, .int 0, .int 0, .int 0, .int 0, .int 0, .int (-1), .long 0, .int 0, .int 1000, .int 100, .int 0, .ref m_readPlace, .ref m_script, .ref m_scriptLong, .int 0, .ref m_now, .ref m_refused, .int 0, .ref m_shareX, .ref m_shareY, .int 0, .int 0, .ref m_askedRow, .int 0, .ref m_kept, .int 0, .long 0, .ref m_aside, .int 0, .int 0, .ref m_spelled, .int 0, .ref m_image, .int 0]))] := hD
  refine lv_aload_n hx hb dX8_readWatch_22 rfl (lv_at hl 0 rfl) ?_
  refine lv_iconst (v := 0) hx hb dX8_readWatch_23 (by decide) ?_
  refine va_put (D := E.1) (ci := 9) (v := .int 0) (ty := .int) (C := RX8) (T := TX8) (N := 36) hx hb hts i_d_readWatch_X8 tyX8 tyX8_ok nmX8 hown hK hP hD hS 0 rfl rfl 12 (by decide) (hts (.fieldLink RX8 120 "HushWatchModel" "readSites" "I") (List.mem_of_getElem? (i := 4) rfl)) (fun _ h9 => h9) rfl (by decide +kernel) rfl rfl (Nat.le_of_ble_eq_true rfl) dX8_readWatch_24 (fun H locs hP hD hS => ?_)
  have hP : va_P E.1 vwCl [(mo, .inr (9, [.int 0, .ref m_tape, .int 0, .int 0, .int 0, .int 0, .int 0, .int (-1), .long 0, .int 0, .int 1000, .int 100, .int 0, .ref m_readPlace, .ref m_script, .ref m_scriptLong, .int 0, .ref m_now, .ref m_refused, .int 0, .ref m_shareX, .ref m_shareY, .int 0, .int 0, .ref m_askedRow, .int 0, .ref m_kept, .int 0, .long 0, .ref m_aside, .int 0, .int 0, .ref m_spelled, .int 0, .ref m_image, .int 0]))] H := hP
  have hD : va_D A [(mo, .inr (9, [.int 0, .ref m_tape, .int 0, .int 0, .int 0, .int 0, .int 0, .int (-1), .long 0, .int 0, .int 1000, .int 100, .int 0, .ref m_readPlace, .ref m_script, .ref m_scriptLong, .int 0, .ref m_now, .ref m_refused, .int 0, .ref m_shareX, .ref m_shareY, .int 0, .int 0, .ref m_askedRow, .int 0, .ref m_kept, .int 0, .long 0, .ref m_aside, .int 0, .int 0, .ref m_spelled, .int 0, .ref m_image, .int 0]))] := hD
  refine lv_iconst (v := 0) hx hb dX8_readWatch_27 (by decide) ?_
  refine lv_istore_n (lv' := [(1, .int 0), (0, .ref mo)]) hx hb dX8_readWatch_28 rfl hl (by decide) rfl (fun ls hl => ?_)
  refine lv_iconst (v := 1) hx hb dX8_readWatch_29 (by decide) ?_
  refine lv_istore_n (lv' := [(2, .int 1), (1, .int 0), (0, .ref mo)]) hx hb dX8_readWatch_30 rfl hl (by decide) rfl (fun ls hl => ?_)
  refine lv_iload_n hx hb dX8_readWatch_31 rfl (lv_at hl 0 rfl) ?_
  refine lv_if_eq (tgt := 74) hx hb dX8_readWatch_32 (by decide) (fun q => absurd q (by decide)) (fun _ => ?_)
  refine lv_aload_n hx hb dX8_readWatch_35 rfl (lv_at hl 2 rfl) ?_
  refine lv_iload_n hx hb dX8_readWatch_36 rfl (lv_at hl 1 rfl) ?_
  have hPc := hP.sub (ws' := [(mo, .inr (9, [.int 0, .ref m_tape, .int 0, .int 0, .int 0, .int 0, .int 0, .int (-1), .long 0, .int 0, .int 1000, .int 100, .int 0, .ref m_readPlace, .ref m_script, .ref m_scriptLong, .int 0, .ref m_now, .ref m_refused, .int 0, .ref m_shareX, .ref m_shareY, .int 0, .int 0, .ref m_askedRow, .int 0, .ref m_kept, .int 0, .long 0, .ref m_aside, .int 0, .int 0, .ref m_spelled, .int 0, .ref m_image, .int 0]))]) [0] rfl
  have hDc := hD.sub (ws' := [(mo, .inr (9, [.int 0, .ref m_tape, .int 0, .int 0, .int 0, .int 0, .int 0, .int (-1), .long 0, .int 0, .int 1000, .int 100, .int 0, .ref m_readPlace, .ref m_script, .ref m_scriptLong, .int 0, .ref m_now, .ref m_refused, .int 0, .ref m_shareX, .ref m_shareY, .int 0, .int 0, .ref m_askedRow, .int 0, .ref m_kept, .int 0, .long 0, .ref m_aside, .int 0, .int 0, .ref m_spelled, .int 0, .ref m_image, .int 0]))]) [0] (by decide) rfl
  have hFc := va_free (wc := [(mo, .inr (9, [.int 0, .ref m_tape, .int 0, .int 0, .int 0, .int 0, .int 0, .int (-1), .long 0, .int 0, .int 1000, .int 100, .int 0, .ref m_readPlace, .ref m_script, .ref m_scriptLong, .int 0, .ref m_now, .ref m_refused, .int 0, .ref m_shareX, .ref m_shareY, .int 0, .int 0, .ref m_askedRow, .int 0, .ref m_kept, .int 0, .long 0, .ref m_aside, .int 0, .int 0, .ref m_spelled, .int 0, .ref m_image, .int 0]))]) hD hS hA [0] rfl
  refine va_calli (va_runV (As := [.int 0]) (rest := []) ⟨hx, hb, hml, hown, hts⟩ (d_clause l E H.size mo m_tape m_readPlace m_script m_scriptLong m_now m_refused m_shareX m_shareY m_askedRow m_kept m_aside m_spelled m_image 1000 100) (cwV 1 hts g_d_readWatch_d_clause_166 rfl rfl rfl (by decide +kernel) ⟨Nat.le_of_ble_eq_true rfl, Nat.le_of_ble_eq_true rfl⟩) ⟨pWZ.blind, va_recv hK hPc (ci := 9) (q0 := 0) rfl rfl, (pWZ.pre ⟨hK, hN⟩ hPc hDc hZ hS hFc)⟩ rfl rfl hl.1 rfl (lv_room (Nat.le_of_ble_eq_true rfl)) dX8_readWatch_37 ⟨Nat.le_of_ble_eq_true rfl, Nat.le_of_ble_eq_true rfl⟩) hS (fun q _ h => hFc q h) hFc (fun r_1 u tt H1 locs ht hvm hw hB hz1 hk1 hS => ?_)
  obtain ⟨hP1, hD1⟩ := hB
  rw [ht] at hP1
  obtain ⟨hP, hD⟩ := va_join (wr := []) (w1 := [(mo, .inr (9, [.int 0, .ref m_tape, .int 0, .int 0, .int 0, .int 0, .int 0, .int 0, .long 0, .int 0, .int 1000, .int 100, .int 0, .ref m_readPlace, .ref m_script, .ref m_scriptLong, .int 0, .ref m_now, .ref m_refused, .int 0, .ref m_shareX, .ref m_shareY, .int 0, .int 0, .ref m_askedRow, .int 0, .ref m_kept, .int 0, .long 0, .ref m_aside, .int 0, .int 0, .ref m_spelled, .int 0, .ref m_image, .int 0]))]) hP hD [0] [] rfl rfl (by decide) (by decide) hk1 hFc hP1 hD1
  generalize H1 = H at hP hS ⊢
  have hP : va_P E.1 vwCl [(mo, .inr (9, [.int 0, .ref m_tape, .int 0, .int 0, .int 0, .int 0, .int 0, .int 0, .long 0, .int 0, .int 1000, .int 100, .int 0, .ref m_readPlace, .ref m_script, .ref m_scriptLong, .int 0, .ref m_now, .ref m_refused, .int 0, .ref m_shareX, .ref m_shareY, .int 0, .int 0, .ref m_askedRow, .int 0, .ref m_kept, .int 0, .long 0, .ref m_aside, .int 0, .int 0, .ref m_spelled, .int 0, .ref m_image, .int 0]))] H := hP
  have hD : va_D A [(mo, .inr (9, [.int 0, .ref m_tape, .int 0, .int 0, .int 0, .int 0, .int 0, .int 0, .long 0, .int 0, .int 1000, .int 100, .int 0, .ref m_readPlace, .ref m_script, .ref m_scriptLong, .int 0, .ref m_now, .ref m_refused, .int 0, .ref m_shareX, .ref m_shareY, .int 0, .int 0, .ref m_askedRow, .int 0, .ref m_kept, .int 0, .long 0, .ref m_aside, .int 0, .int 0, .ref m_spelled, .int 0, .ref m_image, .int 0]))] := hD
  have hr_1 := hw
  obtain rfl : r_1 = 0 := hr_1
  refine lv_istore_n (lv' := [(1, .int 0), (2, .int 1), (0, .ref mo)]) hx hb dX8_readWatch_40 rfl hl (by decide) rfl (fun ls hl => ?_)
  refine lv_aload_n hx hb dX8_readWatch_41 rfl (lv_at hl 2 rfl) ?_
  refine va_get (D := E.1) (ci := 9) (v := .int 0) (C := RX8) (T := TX8) (N := 36) hx hb hts i_d_readWatch_X8 hown hK hP 0 rfl rfl 7 (by decide) (hts (.fieldLink RX8 103 "HushWatchModel" "wrong" "I") (List.mem_of_getElem? (i := 5) rfl)) (fun _ h9 => h9) rfl dX8_readWatch_42 ?_
  refine lv_iconst (v := -1) hx hb dX8_readWatch_45 (by decide) ?_
  refine lv_icmp_ne (tgt := 61) hx hb dX8_readWatch_46 (by decide) (fun _ => ?_) (fun q => absurd q (by decide))
  refine lv_iconst (v := 0) hx hb dX8_readWatch_61 (by decide) ?_
  refine lv_istore_n (lv' := [(2, .int 0), (1, .int 0), (0, .ref mo)]) hx hb dX8_readWatch_62 rfl hl (by decide) rfl (fun ls hl => ?_)
  refine lv_iload_n hx hb dX8_readWatch_63 rfl (lv_at hl 0 rfl) ?_
  refine lv_if_eq (tgt := 31) hx hb dX8_readWatch_64 (by decide) (fun _ => ?_) (fun q => absurd (by decide) q)
  refine lv_iload_n hx hb dX8_readWatch_31 rfl (lv_at hl 0 rfl) ?_
  refine lv_if_eq (tgt := 74) hx hb dX8_readWatch_32 (by decide) (fun _ => ?_) (fun q => absurd (by decide) q)
  refine lv_aload_n hx hb dX8_readWatch_74 rfl (lv_at hl 2 rfl) ?_
  refine va_get (D := E.1) (ci := 9) (v := .int 0) (C := RX8) (T := TX8) (N := 36) hx hb hts i_d_readWatch_X8 hown hK hP 0 rfl rfl 7 (by decide) (hts (.fieldLink RX8 103 "HushWatchModel" "wrong" "I") (List.mem_of_getElem? (i := 5) rfl)) (fun _ h9 => h9) rfl dX8_readWatch_75 ?_
  refine lv_iconst (v := -1) hx hb dX8_readWatch_78 (by decide) ?_
  refine lv_icmp_ne (tgt := 101) hx hb dX8_readWatch_79 (by decide) (fun _ => ?_) (fun q => absurd q (by decide))
  refine lv_aload_n hx hb dX8_readWatch_101 rfl (lv_at hl 2 rfl) ?_
  refine va_get (D := E.1) (ci := 9) (v := .int 0) (C := RX8) (T := TX8) (N := 36) hx hb hts i_d_readWatch_X8 hown hK hP 0 rfl rfl 7 (by decide) (hts (.fieldLink RX8 103 "HushWatchModel" "wrong" "I") (List.mem_of_getElem? (i := 5) rfl)) (fun _ h9 => h9) rfl dX8_readWatch_102 ?_
  have hP9 : va_P E.1 vwCl [] H := fun k q h => by simp at h
  have hD9 : va_D A [] := ⟨fun i j p q h => by simp at h, fun k q h => by simp at h⟩
  exact W.iret (v := 0) hx hb hr (fun tt ht hW => ⟨⟨_, (), rfl, rfl, by rw [ht]; exact hP9, hD9⟩, hS.F ht⟩) hS.2.2 dX8_readWatch_105

def v_d_readStep : List Cond := .code yX8_readStep cX8_readStep 4 none :: ([.fieldLink RX8 170 "HushWatchModel" "MOVE" "J", .fieldLink RX8 173 "HushWatchModel" "ADD" "J", .fieldLink RX8 133 "HushWatchModel" "BOUND" "J", .fieldLink RX8 130 "HushWatchModel" "LAW" "J", .fieldLink RX8 176 "HushWatchModel" "SYNC" "J", .fieldLink RX8 136 "HushWatchModel" "GOAL" "J", .fieldLink RX8 179 "HushWatchModel" "FREEZE" "J", .methodLink RX8 116 yX8_isWord, .instanceMethod yX8_isWord, .selects RX8 yX8_isWord yX8_isWord, .initialized RX8, .methodLink RX8 106 yX8_bad, .instanceMethod yX8_bad, .selects RX8 yX8_bad yX8_bad] ++ (v_d_isWord ++ (v_d_bad ++ ([]))))
theorem gw_d_readStep : v_d_readStep.all goodWord = true := by decide +kernel
theorem g_d_readStep_d_isWord_116 : GoodIn v_d_readStep (wsV RX8 116 RX8 yX8_isWord v_d_isWord) := goodIn_app (goodIn_of _ (by decide +kernel)) (goodIn_sub (fun _ h => List.mem_cons_of_mem _ (List.mem_append_right _ (List.mem_append_left _ h))) gw_d_isWord)
theorem g_d_readStep_d_bad_106 : GoodIn v_d_readStep (wsV RX8 106 RX8 yX8_bad v_d_bad) := goodIn_app (goodIn_of _ (by decide +kernel)) (goodIn_sub (fun _ h => List.mem_cons_of_mem _ (List.mem_append_right _ (List.mem_append_right _ (List.mem_append_left _ h)))) gw_d_bad)
set_option maxHeartbeats 4000000 in
set_option maxRecDepth 100000 in
theorem d_readStep (l : Launch) (E : EE) (sz : Nat) (mo m_tape m_readPlace m_script m_scriptLong m_now m_refused m_shareX m_shareY m_askedRow m_kept m_aside m_spelled m_image : Nat) (rb rg : Int32) (p0 : Int32) : Met l yX8_readStep v_d_readStep ({ frames := 1, cells := 0, slots := 0, locals := 22 }) (va_Pc [.ref mo, .int p0] (pWZ E sz [(mo, .inr (9, [.int 0, .ref m_tape, .int 0, .int 0, .int 0, .int 0, .int 0, .int (-1), .long 0, .int 0, .int rb, .int rg, .int 0, .ref m_readPlace, .ref m_script, .ref m_scriptLong, .int 0, .ref m_now, .ref m_refused, .int 0, .ref m_shareX, .ref m_shareY, .int 0, .int 0, .ref m_askedRow, .int 0, .ref m_kept, .int 0, .long 0, .ref m_aside, .int 0, .int 0, .ref m_spelled, .int 0, .ref m_image, .int 0]))])) (va_Qv (fun (_u : Unit) => True) (fun (_u : Unit) tt => va_P E.1 vwCl [(mo, .inr (9, [.int 0, .ref m_tape, .int 0, .int 0, .int 0, .int 0, .int 0, .int 0, .long 0, .int 0, .int rb, .int rg, .int 0, .ref m_readPlace, .ref m_script, .ref m_scriptLong, .int 0, .ref m_now, .ref m_refused, .int 0, .ref m_shareX, .ref m_shareY, .int 0, .int 0, .ref m_askedRow, .int 0, .ref m_kept, .int 0, .long 0, .ref m_aside, .int 0, .int 0, .ref m_spelled, .int 0, .ref m_image, .int 0]))] tt.heap ∧ va_D (va_A [(mo, .inr (9, [.int 0, .ref m_tape, .int 0, .int 0, .int 0, .int 0, .int 0, .int (-1), .long 0, .int 0, .int rb, .int rg, .int 0, .ref m_readPlace, .ref m_script, .ref m_scriptLong, .int 0, .ref m_now, .ref m_refused, .int 0, .ref m_shareX, .ref m_shareY, .int 0, .int 0, .ref m_askedRow, .int 0, .ref m_kept, .int 0, .long 0, .ref m_aside, .int 0, .int 0, .ref m_spelled, .int 0, .ref m_image, .int 0]))] sz) [(mo, .inr (9, [.int 0, .ref m_tape, .int 0, .int 0, .int 0, .int 0, .int 0, .int 0, .long 0, .int 0, .int rb, .int rg, .int 0, .ref m_readPlace, .ref m_script, .ref m_scriptLong, .int 0, .ref m_now, .ref m_refused, .int 0, .ref m_shareX, .ref m_shareY, .int 0, .int 0, .ref m_askedRow, .int 0, .ref m_kept, .int 0, .long 0, .ref m_aside, .int 0, .int 0, .ref m_spelled, .int 0, .ref m_image, .int 0]))]) (va_A [(mo, .inr (9, [.int 0, .ref m_tape, .int 0, .int 0, .int 0, .int 0, .int 0, .int (-1), .long 0, .int 0, .int rb, .int rg, .int 0, .ref m_readPlace, .ref m_script, .ref m_scriptLong, .int 0, .ref m_now, .ref m_refused, .int 0, .ref m_shareX, .ref m_shareY, .int 0, .int 0, .ref m_askedRow, .int 0, .ref m_kept, .int 0, .long 0, .ref m_aside, .int 0, .int 0, .ref m_spelled, .int 0, .ref m_image, .int 0]))] sz)) 0 0 (va_A [(mo, .inr (9, [.int 0, .ref m_tape, .int 0, .int 0, .int 0, .int 0, .int 0, .int (-1), .long 0, .int 0, .int rb, .int rg, .int 0, .ref m_readPlace, .ref m_script, .ref m_scriptLong, .int 0, .ref m_now, .ref m_refused, .int 0, .ref m_shareX, .ref m_shareY, .int 0, .int 0, .ref m_askedRow, .int 0, .ref m_kept, .int 0, .long 0, .ref m_aside, .int 0, .int 0, .ref m_spelled, .int 0, .ref m_image, .int 0]))] sz) := by
  refine Met.ofW (cc := cX8_readStep) (maxL := 4) (ret := none) (by decide) rfl ?_
  intro p e s m args below meth c s₁ B hml hv
  obtain ⟨rfl, hsz, ⟨hK, hN⟩, hP, hD0, hZ⟩ := hv
  have hx := B.exec
  have hb := B.bytes
  have hr := B.returns
  have hts := atoms_spec (ws := v_d_readStep) B.pre
  have hown : s.vm.findClass RX8 = some m.cls := findClass_of_methodNamed B.named
  have hlocks := B.notSynchronized
  subst hsz
  have hD := hD0.self (sz := s.heap.size)
  generalize hAe : va_A [(mo, .inr (9, [.int 0, .ref m_tape, .int 0, .int 0, .int 0, .int 0, .int 0, .int (-1), .long 0, .int 0, .int rb, .int rg, .int 0, .ref m_readPlace, .ref m_script, .ref m_scriptLong, .int 0, .ref m_now, .ref m_refused, .int 0, .ref m_shareX, .ref m_shareY, .int 0, .int 0, .ref m_askedRow, .int 0, .ref m_kept, .int 0, .long 0, .ref m_aside, .int 0, .int 0, .ref m_spelled, .int 0, .ref m_image, .int 0]))] s.heap.size = A at hD hZ ⊢
  have hA : ∀ q : Nat, s.heap.size ≤ q → A q := fun q h => by rw [← hAe]; exact Or.inr h
  have hS : va_S A s.heap s.heap [] := va_S.rf
  have hP : va_P E.1 vwCl [(mo, .inr (9, [.int 0, .ref m_tape, .int 0, .int 0, .int 0, .int 0, .int 0, .int (-1), .long 0, .int 0, .int rb, .int rg, .int 0, .ref m_readPlace, .ref m_script, .ref m_scriptLong, .int 0, .ref m_now, .ref m_refused, .int 0, .ref m_shareX, .ref m_shareY, .int 0, .int 0, .ref m_askedRow, .int 0, .ref m_kept, .int 0, .long 0, .ref m_aside, .int 0, .int 0, .ref m_spelled, .int 0, .ref m_image, .int 0]))] s.heap := hP
  have hl := lv_entry ([.ref mo, .int p0]) (n := 4) (Nat.le_of_ble_eq_true rfl)
  rw [lg_entry_eq]
  generalize (lg_sl ([.ref mo, .int p0]) ++ List.replicate (4 - (lg_sl ([.ref mo, .int p0])).length) Slot.unset).toArray = ls at hl ⊢
  have hl : lv_has ls 4 [(0, .ref mo), (1, .int p0)] := hl
  refine lv_aload_n hx hb dX8_readStep_0 rfl (lv_at hl 0 rfl) ?_
  refine va_gets hx hb hZ.2.2.2.2.1 hS hown (hts (.fieldLink RX8 170 "HushWatchModel" "MOVE" "J") (List.mem_of_getElem? (i := 1) rfl)) (fun _ h9 => h9) dX8_readStep_1 ?_
  have hPc := hP.sub (ws' := [(mo, .inr (9, [.int 0, .ref m_tape, .int 0, .int 0, .int 0, .int 0, .int 0, .int (-1), .long 0, .int 0, .int rb, .int rg, .int 0, .ref m_readPlace, .ref m_script, .ref m_scriptLong, .int 0, .ref m_now, .ref m_refused, .int 0, .ref m_shareX, .ref m_shareY, .int 0, .int 0, .ref m_askedRow, .int 0, .ref m_kept, .int 0, .long 0, .ref m_aside, .int 0, .int 0, .ref m_spelled, .int 0, .ref m_image, .int 0]))]) [0] rfl
  refine pc_i (va_runV (As := [.long 442053]) (rest := []) ⟨hx, hb, hml, hown, hts⟩ (d_isWord l E mo m_tape m_readPlace m_script m_scriptLong m_now m_refused m_shareX m_shareY m_askedRow m_kept m_aside m_spelled m_image rb rg 442053) (cwV 1 hts g_d_readStep_d_isWord_116 rfl rfl rfl (by decide +kernel) ⟨Nat.le_of_ble_eq_true rfl, Nat.le_of_ble_eq_true rfl⟩) ⟨pP.blind, va_recv hK hPc (ci := 9) (q0 := 0) rfl rfl, (pP.pre ⟨hK, hN⟩ hPc)⟩ rfl rfl hl.1 rfl (lv_room (Nat.le_of_ble_eq_true rfl)) dX8_readStep_4 ⟨Nat.le_of_ble_eq_true rfl, Nat.le_of_ble_eq_true rfl⟩) (fun r_1 hr_1 => ?_)
  obtain rfl : r_1 = 0 := hr_1
  refine lv_if_eq (tgt := 14) hx hb dX8_readStep_7 (by decide) (fun _ => ?_) (fun q => absurd (by decide) q)
  refine lv_aload_n hx hb dX8_readStep_14 rfl (lv_at hl 0 rfl) ?_
  refine va_gets hx hb hZ.2.2.2.2.2.1 hS hown (hts (.fieldLink RX8 173 "HushWatchModel" "ADD" "J") (List.mem_of_getElem? (i := 2) rfl)) (fun _ h9 => h9) dX8_readStep_15 ?_
  have hPc := hP.sub (ws' := [(mo, .inr (9, [.int 0, .ref m_tape, .int 0, .int 0, .int 0, .int 0, .int 0, .int (-1), .long 0, .int 0, .int rb, .int rg, .int 0, .ref m_readPlace, .ref m_script, .ref m_scriptLong, .int 0, .ref m_now, .ref m_refused, .int 0, .ref m_shareX, .ref m_shareY, .int 0, .int 0, .ref m_askedRow, .int 0, .ref m_kept, .int 0, .long 0, .ref m_aside, .int 0, .int 0, .ref m_spelled, .int 0, .ref m_image, .int 0]))]) [0] rfl
  refine pc_i (va_runV (As := [.long 1156]) (rest := []) ⟨hx, hb, hml, hown, hts⟩ (d_isWord l E mo m_tape m_readPlace m_script m_scriptLong m_now m_refused m_shareX m_shareY m_askedRow m_kept m_aside m_spelled m_image rb rg 1156) (cwV 1 hts g_d_readStep_d_isWord_116 rfl rfl rfl (by decide +kernel) ⟨Nat.le_of_ble_eq_true rfl, Nat.le_of_ble_eq_true rfl⟩) ⟨pP.blind, va_recv hK hPc (ci := 9) (q0 := 0) rfl rfl, (pP.pre ⟨hK, hN⟩ hPc)⟩ rfl rfl hl.1 rfl (lv_room (Nat.le_of_ble_eq_true rfl)) dX8_readStep_18 ⟨Nat.le_of_ble_eq_true rfl, Nat.le_of_ble_eq_true rfl⟩) (fun r_2 hr_2 => ?_)
  obtain rfl : r_2 = 0 := hr_2
  refine lv_if_eq (tgt := 28) hx hb dX8_readStep_21 (by decide) (fun _ => ?_) (fun q => absurd (by decide) q)
  refine lv_aload_n hx hb dX8_readStep_28 rfl (lv_at hl 0 rfl) ?_
  refine va_gets hx hb hZ.2.1 hS hown (hts (.fieldLink RX8 133 "HushWatchModel" "BOUND" "J") (List.mem_of_getElem? (i := 3) rfl)) (fun _ h9 => h9) dX8_readStep_29 ?_
  have hPc := hP.sub (ws' := [(mo, .inr (9, [.int 0, .ref m_tape, .int 0, .int 0, .int 0, .int 0, .int 0, .int (-1), .long 0, .int 0, .int rb, .int rg, .int 0, .ref m_readPlace, .ref m_script, .ref m_scriptLong, .int 0, .ref m_now, .ref m_refused, .int 0, .ref m_shareX, .ref m_shareY, .int 0, .int 0, .ref m_askedRow, .int 0, .ref m_kept, .int 0, .long 0, .ref m_aside, .int 0, .int 0, .ref m_spelled, .int 0, .ref m_image, .int 0]))]) [0] rfl
  refine pc_i (va_runV (As := [.long 2610628]) (rest := []) ⟨hx, hb, hml, hown, hts⟩ (d_isWord l E mo m_tape m_readPlace m_script m_scriptLong m_now m_refused m_shareX m_shareY m_askedRow m_kept m_aside m_spelled m_image rb rg 2610628) (cwV 1 hts g_d_readStep_d_isWord_116 rfl rfl rfl (by decide +kernel) ⟨Nat.le_of_ble_eq_true rfl, Nat.le_of_ble_eq_true rfl⟩) ⟨pP.blind, va_recv hK hPc (ci := 9) (q0 := 0) rfl rfl, (pP.pre ⟨hK, hN⟩ hPc)⟩ rfl rfl hl.1 rfl (lv_room (Nat.le_of_ble_eq_true rfl)) dX8_readStep_32 ⟨Nat.le_of_ble_eq_true rfl, Nat.le_of_ble_eq_true rfl⟩) (fun r_3 hr_3 => ?_)
  obtain rfl : r_3 = 0 := hr_3
  refine lv_if_eq (tgt := 42) hx hb dX8_readStep_35 (by decide) (fun _ => ?_) (fun q => absurd (by decide) q)
  refine lv_aload_n hx hb dX8_readStep_42 rfl (lv_at hl 0 rfl) ?_
  refine va_gets hx hb hZ.1 hS hown (hts (.fieldLink RX8 130 "HushWatchModel" "LAW" "J") (List.mem_of_getElem? (i := 4) rfl)) (fun _ h9 => h9) dX8_readStep_43 ?_
  have hPc := hP.sub (ws' := [(mo, .inr (9, [.int 0, .ref m_tape, .int 0, .int 0, .int 0, .int 0, .int 0, .int (-1), .long 0, .int 0, .int rb, .int rg, .int 0, .ref m_readPlace, .ref m_script, .ref m_scriptLong, .int 0, .ref m_now, .ref m_refused, .int 0, .ref m_shareX, .ref m_shareY, .int 0, .int 0, .ref m_askedRow, .int 0, .ref m_kept, .int 0, .long 0, .ref m_aside, .int 0, .int 0, .ref m_spelled, .int 0, .ref m_image, .int 0]))]) [0] rfl
  refine pc_i (va_runV (As := [.long 12343]) (rest := []) ⟨hx, hb, hml, hown, hts⟩ (d_isWord l E mo m_tape m_readPlace m_script m_scriptLong m_now m_refused m_shareX m_shareY m_askedRow m_kept m_aside m_spelled m_image rb rg 12343) (cwV 1 hts g_d_readStep_d_isWord_116 rfl rfl rfl (by decide +kernel) ⟨Nat.le_of_ble_eq_true rfl, Nat.le_of_ble_eq_true rfl⟩) ⟨pP.blind, va_recv hK hPc (ci := 9) (q0 := 0) rfl rfl, (pP.pre ⟨hK, hN⟩ hPc)⟩ rfl rfl hl.1 rfl (lv_room (Nat.le_of_ble_eq_true rfl)) dX8_readStep_46 ⟨Nat.le_of_ble_eq_true rfl, Nat.le_of_ble_eq_true rfl⟩) (fun r_4 hr_4 => ?_)
  obtain rfl : r_4 = 0 := hr_4
  refine lv_if_eq (tgt := 56) hx hb dX8_readStep_49 (by decide) (fun _ => ?_) (fun q => absurd (by decide) q)
  refine lv_aload_n hx hb dX8_readStep_56 rfl (lv_at hl 0 rfl) ?_
  refine va_gets hx hb hZ.2.2.2.2.2.2.1 hS hown (hts (.fieldLink RX8 176 "HushWatchModel" "SYNC" "J") (List.mem_of_getElem? (i := 5) rfl)) (fun _ h9 => h9) dX8_readStep_57 ?_
  have hPc := hP.sub (ws' := [(mo, .inr (9, [.int 0, .ref m_tape, .int 0, .int 0, .int 0, .int 0, .int 0, .int (-1), .long 0, .int 0, .int rb, .int rg, .int 0, .ref m_readPlace, .ref m_script, .ref m_scriptLong, .int 0, .ref m_now, .ref m_refused, .int 0, .ref m_shareX, .ref m_shareY, .int 0, .int 0, .ref m_askedRow, .int 0, .ref m_kept, .int 0, .long 0, .ref m_aside, .int 0, .int 0, .ref m_spelled, .int 0, .ref m_image, .int 0]))]) [0] rfl
  refine pc_i (va_runV (As := [.long 648643]) (rest := []) ⟨hx, hb, hml, hown, hts⟩ (d_isWord l E mo m_tape m_readPlace m_script m_scriptLong m_now m_refused m_shareX m_shareY m_askedRow m_kept m_aside m_spelled m_image rb rg 648643) (cwV 1 hts g_d_readStep_d_isWord_116 rfl rfl rfl (by decide +kernel) ⟨Nat.le_of_ble_eq_true rfl, Nat.le_of_ble_eq_true rfl⟩) ⟨pP.blind, va_recv hK hPc (ci := 9) (q0 := 0) rfl rfl, (pP.pre ⟨hK, hN⟩ hPc)⟩ rfl rfl hl.1 rfl (lv_room (Nat.le_of_ble_eq_true rfl)) dX8_readStep_60 ⟨Nat.le_of_ble_eq_true rfl, Nat.le_of_ble_eq_true rfl⟩) (fun r_5 hr_5 => ?_)
  obtain rfl : r_5 = 0 := hr_5
  refine lv_if_eq (tgt := 70) hx hb dX8_readStep_63 (by decide) (fun _ => ?_) (fun q => absurd (by decide) q)
  refine lv_aload_n hx hb dX8_readStep_70 rfl (lv_at hl 0 rfl) ?_
  refine va_gets hx hb hZ.2.2.1 hS hown (hts (.fieldLink RX8 136 "HushWatchModel" "GOAL" "J") (List.mem_of_getElem? (i := 6) rfl)) (fun _ h9 => h9) dX8_readStep_71 ?_
  have hPc := hP.sub (ws' := [(mo, .inr (9, [.int 0, .ref m_tape, .int 0, .int 0, .int 0, .int 0, .int 0, .int (-1), .long 0, .int 0, .int rb, .int rg, .int 0, .ref m_readPlace, .ref m_script, .ref m_scriptLong, .int 0, .ref m_now, .ref m_refused, .int 0, .ref m_shareX, .ref m_shareY, .int 0, .int 0, .ref m_askedRow, .int 0, .ref m_kept, .int 0, .long 0, .ref m_aside, .int 0, .int 0, .ref m_spelled, .int 0, .ref m_image, .int 0]))]) [0] rfl
  refine pc_i (va_runV (As := [.long 244780]) (rest := []) ⟨hx, hb, hml, hown, hts⟩ (d_isWord l E mo m_tape m_readPlace m_script m_scriptLong m_now m_refused m_shareX m_shareY m_askedRow m_kept m_aside m_spelled m_image rb rg 244780) (cwV 1 hts g_d_readStep_d_isWord_116 rfl rfl rfl (by decide +kernel) ⟨Nat.le_of_ble_eq_true rfl, Nat.le_of_ble_eq_true rfl⟩) ⟨pP.blind, va_recv hK hPc (ci := 9) (q0 := 0) rfl rfl, (pP.pre ⟨hK, hN⟩ hPc)⟩ rfl rfl hl.1 rfl (lv_room (Nat.le_of_ble_eq_true rfl)) dX8_readStep_74 ⟨Nat.le_of_ble_eq_true rfl, Nat.le_of_ble_eq_true rfl⟩) (fun r_6 hr_6 => ?_)
  obtain rfl : r_6 = 0 := hr_6
  refine lv_if_eq (tgt := 84) hx hb dX8_readStep_77 (by decide) (fun _ => ?_) (fun q => absurd (by decide) q)
  refine lv_aload_n hx hb dX8_readStep_84 rfl (lv_at hl 0 rfl) ?_
  refine va_gets hx hb hZ.2.2.2.2.2.2.2 hS hown (hts (.fieldLink RX8 179 "HushWatchModel" "FREEZE" "J") (List.mem_of_getElem? (i := 7) rfl)) (fun _ h9 => h9) dX8_readStep_85 ?_
  have hPc := hP.sub (ws' := [(mo, .inr (9, [.int 0, .ref m_tape, .int 0, .int 0, .int 0, .int 0, .int 0, .int (-1), .long 0, .int 0, .int rb, .int rg, .int 0, .ref m_readPlace, .ref m_script, .ref m_scriptLong, .int 0, .ref m_now, .ref m_refused, .int 0, .ref m_shareX, .ref m_shareY, .int 0, .int 0, .ref m_askedRow, .int 0, .ref m_kept, .int 0, .long 0, .ref m_aside, .int 0, .int 0, .ref m_spelled, .int 0, .ref m_image, .int 0]))]) [0] rfl
  refine pc_i (va_runV (As := [.long 220370757]) (rest := []) ⟨hx, hb, hml, hown, hts⟩ (d_isWord l E mo m_tape m_readPlace m_script m_scriptLong m_now m_refused m_shareX m_shareY m_askedRow m_kept m_aside m_spelled m_image rb rg 220370757) (cwV 1 hts g_d_readStep_d_isWord_116 rfl rfl rfl (by decide +kernel) ⟨Nat.le_of_ble_eq_true rfl, Nat.le_of_ble_eq_true rfl⟩) ⟨pP.blind, va_recv hK hPc (ci := 9) (q0 := 0) rfl rfl, (pP.pre ⟨hK, hN⟩ hPc)⟩ rfl rfl hl.1 rfl (lv_room (Nat.le_of_ble_eq_true rfl)) dX8_readStep_88 ⟨Nat.le_of_ble_eq_true rfl, Nat.le_of_ble_eq_true rfl⟩) (fun r_7 hr_7 => ?_)
  obtain rfl : r_7 = 0 := hr_7
  refine lv_if_eq (tgt := 99) hx hb dX8_readStep_91 (by decide) (fun _ => ?_) (fun q => absurd (by decide) q)
  refine lv_iconst (v := -1) hx hb dX8_readStep_99 (by decide) ?_
  refine lv_istore_n (lv' := [(2, .int (-1)), (0, .ref mo), (1, .int p0)]) hx hb dX8_readStep_100 rfl hl (by decide) rfl (fun ls hl => ?_)
  refine lv_iload_n hx hb dX8_readStep_101 rfl (lv_at hl 0 rfl) ?_
  refine lv_iconst (v := -1) hx hb dX8_readStep_102 (by decide) ?_
  refine lv_icmp_ne (tgt := 111) hx hb dX8_readStep_103 (by decide) (fun q => absurd (by decide) q) (fun _ => ?_)
  refine lv_aload_n hx hb dX8_readStep_106 rfl (lv_at hl 1 rfl) ?_
  have hPc := hP.sub (ws' := [(mo, .inr (9, [.int 0, .ref m_tape, .int 0, .int 0, .int 0, .int 0, .int 0, .int (-1), .long 0, .int 0, .int rb, .int rg, .int 0, .ref m_readPlace, .ref m_script, .ref m_scriptLong, .int 0, .ref m_now, .ref m_refused, .int 0, .ref m_shareX, .ref m_shareY, .int 0, .int 0, .ref m_askedRow, .int 0, .ref m_kept, .int 0, .long 0, .ref m_aside, .int 0, .int 0, .ref m_spelled, .int 0, .ref m_image, .int 0]))]) [0] rfl
  have hDc := hD.sub (ws' := [(mo, .inr (9, [.int 0, .ref m_tape, .int 0, .int 0, .int 0, .int 0, .int 0, .int (-1), .long 0, .int 0, .int rb, .int rg, .int 0, .ref m_readPlace, .ref m_script, .ref m_scriptLong, .int 0, .ref m_now, .ref m_refused, .int 0, .ref m_shareX, .ref m_shareY, .int 0, .int 0, .ref m_askedRow, .int 0, .ref m_kept, .int 0, .long 0, .ref m_aside, .int 0, .int 0, .ref m_spelled, .int 0, .ref m_image, .int 0]))]) [0] (by decide) rfl
  have hFc := va_free (wc := [(mo, .inr (9, [.int 0, .ref m_tape, .int 0, .int 0, .int 0, .int 0, .int 0, .int (-1), .long 0, .int 0, .int rb, .int rg, .int 0, .ref m_readPlace, .ref m_script, .ref m_scriptLong, .int 0, .ref m_now, .ref m_refused, .int 0, .ref m_shareX, .ref m_shareY, .int 0, .int 0, .ref m_askedRow, .int 0, .ref m_kept, .int 0, .long 0, .ref m_aside, .int 0, .int 0, .ref m_spelled, .int 0, .ref m_image, .int 0]))]) hD hS hA [0] rfl
  refine va_callv (va_runV (As := []) (rest := []) ⟨hx, hb, hml, hown, hts⟩ (d_bad l E s.heap.size mo m_tape m_readPlace m_script m_scriptLong m_now m_refused m_shareX m_shareY m_askedRow m_kept m_aside m_spelled m_image rb rg) (cwV 0 hts g_d_readStep_d_bad_106 rfl rfl rfl (by decide +kernel) ⟨Nat.le_of_ble_eq_true rfl, Nat.le_of_ble_eq_true rfl⟩) ⟨pW.blind, va_recv hK hPc (ci := 9) (q0 := 0) rfl rfl, (pW.pre ⟨hK, hN⟩ hPc hDc)⟩ rfl rfl hl.1 rfl (lv_room (Nat.le_of_ble_eq_true rfl)) dX8_readStep_107 ⟨Nat.le_of_ble_eq_true rfl, Nat.le_of_ble_eq_true rfl⟩) hS (fun q _ h => hFc q h) hFc (fun  u tt H1 locs ht hvm hw hB hz1 hk1 hS => ?_)
  obtain ⟨hP1, hD1⟩ := hB
  rw [ht] at hP1
  obtain ⟨hP, hD⟩ := va_join (wr := []) (w1 := [(mo, .inr (9, [.int 0, .ref m_tape, .int 0, .int 0, .int 0, .int 0, .int 0, .int 0, .long 0, .int 0, .int rb, .int rg, .int 0, .ref m_readPlace, .ref m_script, .ref m_scriptLong, .int 0, .ref m_now, .ref m_refused, .int 0, .ref m_shareX, .ref m_shareY, .int 0, .int 0, .ref m_askedRow, .int 0, .ref m_kept, .int 0, .long 0, .ref m_aside, .int 0, .int 0, .ref m_spelled, .int 0, .ref m_image, .int 0]))]) hP hD [0] [] rfl rfl (by decide) (by decide) hk1 hFc hP1 hD1
  generalize H1 = H at hP hS ⊢
  have hP : va_P E.1 vwCl [(mo, .inr (9, [.int 0, .ref m_tape, .int 0, .int 0, .int 0, .int 0, .int 0, .int 0, .long 0, .int 0, .int rb, .int rg, .int 0, .ref m_readPlace, .ref m_script, .ref m_scriptLong, .int 0, .ref m_now, .ref m_refused, .int 0, .ref m_shareX, .ref m_shareY, .int 0, .int 0, .ref m_askedRow, .int 0, .ref m_kept, .int 0, .long 0, .ref m_aside, .int 0, .int 0, .ref m_spelled, .int 0, .ref m_image, .int 0]))] H := hP
  have hD : va_D A [(mo, .inr (9, [.int 0, .ref m_tape, .int 0, .int 0, .int 0, .int 0, .int 0, .int 0, .long 0, .int 0, .int rb, .int rg, .int 0, .ref m_readPlace, .ref m_script, .ref m_scriptLong, .int 0, .ref m_now, .ref m_refused, .int 0, .ref m_shareX, .ref m_shareY, .int 0, .int 0, .ref m_askedRow, .int 0, .ref m_kept, .int 0, .long 0, .ref m_aside, .int 0, .int 0, .ref m_spelled, .int 0, .ref m_image, .int 0]))] := hD
  have hP9 := hP.sub (ws' := [(mo, .inr (9, [.int 0, .ref m_tape, .int 0, .int 0, .int 0, .int 0, .int 0, .int 0, .long 0, .int 0, .int rb, .int rg, .int 0, .ref m_readPlace, .ref m_script, .ref m_scriptLong, .int 0, .ref m_now, .ref m_refused, .int 0, .ref m_shareX, .ref m_shareY, .int 0, .int 0, .ref m_askedRow, .int 0, .ref m_kept, .int 0, .long 0, .ref m_aside, .int 0, .int 0, .ref m_spelled, .int 0, .ref m_image, .int 0]))]) [0] rfl
  have hD9 := hD.sub (ws' := [(mo, .inr (9, [.int 0, .ref m_tape, .int 0, .int 0, .int 0, .int 0, .int 0, .int 0, .long 0, .int 0, .int rb, .int rg, .int 0, .ref m_readPlace, .ref m_script, .ref m_scriptLong, .int 0, .ref m_now, .ref m_refused, .int 0, .ref m_shareX, .ref m_shareY, .int 0, .int 0, .ref m_askedRow, .int 0, .ref m_kept, .int 0, .long 0, .ref m_aside, .int 0, .int 0, .ref m_spelled, .int 0, .ref m_image, .int 0]))]) [0] (by decide) rfl
  exact W.vret hx hb hr (fun tt ht hW => ⟨⟨(), rfl, trivial, by rw [ht]; exact hP9, hD9⟩, hS.F ht⟩) hS.2.2 dX8_readStep_110

def v_d_readScript0 : List Cond := .code yX8_readScript cX8_readScript 3 (some .int) :: ([.fieldLink RX8 19 "HushWatchModel" "scriptLong" "[I", .fieldLink RX8 103 "HushWatchModel" "wrong" "I", .methodLink RX8 163 yX8_begins, .instanceMethod yX8_begins, .selects RX8 yX8_begins yX8_begins, .initialized RX8, .methodLink RX8 186 yX8_readStep, .instanceMethod yX8_readStep, .selects RX8 yX8_readStep yX8_readStep] ++ (v_d_begins ++ (wsX80 ++ (v_d_readStep ++ ([])))))
theorem gw_d_readScript0 : v_d_readScript0.all goodWord = true := by decide +kernel
theorem i_d_readScript0_X8 : ∀ w ∈ wsX80, w ∈ v_d_readScript0 := fun _ h => List.mem_cons_of_mem _ (List.mem_append_right _ (List.mem_append_right _ (List.mem_append_left _ h)))
theorem g_d_readScript0_d_begins_163 : GoodIn v_d_readScript0 (wsV RX8 163 RX8 yX8_begins v_d_begins) := goodIn_app (goodIn_of _ (by decide +kernel)) (goodIn_sub (fun _ h => List.mem_cons_of_mem _ (List.mem_append_right _ (List.mem_append_left _ h))) gw_d_begins)
theorem g_d_readScript0_d_readStep_186 : GoodIn v_d_readScript0 (wsV RX8 186 RX8 yX8_readStep v_d_readStep) := goodIn_app (goodIn_of _ (by decide +kernel)) (goodIn_sub (fun _ h => List.mem_cons_of_mem _ (List.mem_append_right _ (List.mem_append_right _ (List.mem_append_right _ (List.mem_append_left _ h))))) gw_d_readStep)
set_option maxHeartbeats 4000000 in
set_option maxRecDepth 100000 in
theorem d_readScript0 (l : Launch) (E : EE) (sz : Nat) (mo m_tape m_readPlace m_script m_scriptLong m_now m_refused m_shareX m_shareY m_askedRow m_kept m_aside m_spelled m_image : Nat) : Met l yX8_readScript v_d_readScript0 ({ frames := 3, cells := 0, slots := 0, locals := 61 }) (va_Pc [.ref mo, .int 0] (pWZ E sz [(mo, .inr (9, [.int 0, .ref m_tape, .int 0, .int 0, .int 0, .int 0, .int 0, .int 0, .long 0, .int 0, .int 0, .int 0, .int 0, .ref m_readPlace, .ref m_script, .ref m_scriptLong, .int 0, .ref m_now, .ref m_refused, .int 0, .ref m_shareX, .ref m_shareY, .int 0, .int 0, .ref m_askedRow, .int 0, .ref m_kept, .int 0, .long 0, .ref m_aside, .int 0, .int 0, .ref m_spelled, .int 0, .ref m_image, .int 0])), (m_scriptLong, .inl (E.2.1, 5, .inl (fun _ => 0)))])) (va_Qi (fun r (_u : Unit) => r = 0) (fun (_u : Unit) tt => va_P E.1 vwCl [] tt.heap ∧ va_D (va_A [(mo, .inr (9, [.int 0, .ref m_tape, .int 0, .int 0, .int 0, .int 0, .int 0, .int 0, .long 0, .int 0, .int 0, .int 0, .int 0, .ref m_readPlace, .ref m_script, .ref m_scriptLong, .int 0, .ref m_now, .ref m_refused, .int 0, .ref m_shareX, .ref m_shareY, .int 0, .int 0, .ref m_askedRow, .int 0, .ref m_kept, .int 0, .long 0, .ref m_aside, .int 0, .int 0, .ref m_spelled, .int 0, .ref m_image, .int 0])), (m_scriptLong, .inl (E.2.1, 5, .inl (fun _ => 0)))] sz) []) (va_A [(mo, .inr (9, [.int 0, .ref m_tape, .int 0, .int 0, .int 0, .int 0, .int 0, .int 0, .long 0, .int 0, .int 0, .int 0, .int 0, .ref m_readPlace, .ref m_script, .ref m_scriptLong, .int 0, .ref m_now, .ref m_refused, .int 0, .ref m_shareX, .ref m_shareY, .int 0, .int 0, .ref m_askedRow, .int 0, .ref m_kept, .int 0, .long 0, .ref m_aside, .int 0, .int 0, .ref m_spelled, .int 0, .ref m_image, .int 0])), (m_scriptLong, .inl (E.2.1, 5, .inl (fun _ => 0)))] sz)) 0 0 (va_A [(mo, .inr (9, [.int 0, .ref m_tape, .int 0, .int 0, .int 0, .int 0, .int 0, .int 0, .long 0, .int 0, .int 0, .int 0, .int 0, .ref m_readPlace, .ref m_script, .ref m_scriptLong, .int 0, .ref m_now, .ref m_refused, .int 0, .ref m_shareX, .ref m_shareY, .int 0, .int 0, .ref m_askedRow, .int 0, .ref m_kept, .int 0, .long 0, .ref m_aside, .int 0, .int 0, .ref m_spelled, .int 0, .ref m_image, .int 0])), (m_scriptLong, .inl (E.2.1, 5, .inl (fun _ => 0)))] sz) := by
  refine Met.ofW (cc := cX8_readScript) (maxL := 3) (ret := (some .int)) (by decide) rfl ?_
  intro p e s m args below meth c s₁ B hml hv
  obtain ⟨rfl, hsz, ⟨hK, hN⟩, hP, hD0, hZ⟩ := hv
  have hx := B.exec
  have hb := B.bytes
  have hr := B.returns
  have hts := atoms_spec (ws := v_d_readScript0) B.pre
  have hown : s.vm.findClass RX8 = some m.cls := findClass_of_methodNamed B.named
  have hlocks := B.notSynchronized
  subst hsz
  have hD := hD0.self (sz := s.heap.size)
  generalize hAe : va_A [(mo, .inr (9, [.int 0, .ref m_tape, .int 0, .int 0, .int 0, .int 0, .int 0, .int 0, .long 0, .int 0, .int 0, .int 0, .int 0, .ref m_readPlace, .ref m_script, .ref m_scriptLong, .int 0, .ref m_now, .ref m_refused, .int 0, .ref m_shareX, .ref m_shareY, .int 0, .int 0, .ref m_askedRow, .int 0, .ref m_kept, .int 0, .long 0, .ref m_aside, .int 0, .int 0, .ref m_spelled, .int 0, .ref m_image, .int 0])), (m_scriptLong, .inl (E.2.1, 5, .inl (fun _ => 0)))] s.heap.size = A at hD hZ ⊢
  have hA : ∀ q : Nat, s.heap.size ≤ q → A q := fun q h => by rw [← hAe]; exact Or.inr h
  have hS : va_S A s.heap s.heap [] := va_S.rf
  have hP : va_P E.1 vwCl [(mo, .inr (9, [.int 0, .ref m_tape, .int 0, .int 0, .int 0, .int 0, .int 0, .int 0, .long 0, .int 0, .int 0, .int 0, .int 0, .ref m_readPlace, .ref m_script, .ref m_scriptLong, .int 0, .ref m_now, .ref m_refused, .int 0, .ref m_shareX, .ref m_shareY, .int 0, .int 0, .ref m_askedRow, .int 0, .ref m_kept, .int 0, .long 0, .ref m_aside, .int 0, .int 0, .ref m_spelled, .int 0, .ref m_image, .int 0])), (m_scriptLong, .inl (E.2.1, 5, .inl (fun _ => 0)))] s.heap := hP
  have hl := lv_entry ([.ref mo, .int 0]) (n := 3) (Nat.le_of_ble_eq_true rfl)
  rw [lg_entry_eq]
  generalize (lg_sl ([.ref mo, .int 0]) ++ List.replicate (3 - (lg_sl ([.ref mo, .int 0])).length) Slot.unset).toArray = ls at hl ⊢
  have hl : lv_has ls 3 [(0, .ref mo), (1, .int 0)] := hl
  refine lv_aload_n hx hb dX8_readScript_0 rfl (lv_at hl 0 rfl) ?_
  have hPc := hP.sub (ws' := [(mo, .inr (9, [.int 0, .ref m_tape, .int 0, .int 0, .int 0, .int 0, .int 0, .int 0, .long 0, .int 0, .int 0, .int 0, .int 0, .ref m_readPlace, .ref m_script, .ref m_scriptLong, .int 0, .ref m_now, .ref m_refused, .int 0, .ref m_shareX, .ref m_shareY, .int 0, .int 0, .ref m_askedRow, .int 0, .ref m_kept, .int 0, .long 0, .ref m_aside, .int 0, .int 0, .ref m_spelled, .int 0, .ref m_image, .int 0]))]) [0] rfl
  have hDc := hD.sub (ws' := [(mo, .inr (9, [.int 0, .ref m_tape, .int 0, .int 0, .int 0, .int 0, .int 0, .int 0, .long 0, .int 0, .int 0, .int 0, .int 0, .ref m_readPlace, .ref m_script, .ref m_scriptLong, .int 0, .ref m_now, .ref m_refused, .int 0, .ref m_shareX, .ref m_shareY, .int 0, .int 0, .ref m_askedRow, .int 0, .ref m_kept, .int 0, .long 0, .ref m_aside, .int 0, .int 0, .ref m_spelled, .int 0, .ref m_image, .int 0]))]) [0] (by decide) rfl
  have hFc := va_free (wc := [(mo, .inr (9, [.int 0, .ref m_tape, .int 0, .int 0, .int 0, .int 0, .int 0, .int 0, .long 0, .int 0, .int 0, .int 0, .int 0, .ref m_readPlace, .ref m_script, .ref m_scriptLong, .int 0, .ref m_now, .ref m_refused, .int 0, .ref m_shareX, .ref m_shareY, .int 0, .int 0, .ref m_askedRow, .int 0, .ref m_kept, .int 0, .long 0, .ref m_aside, .int 0, .int 0, .ref m_spelled, .int 0, .ref m_image, .int 0]))]) hD hS hA [0] rfl
  refine va_callv (va_runV (As := []) (rest := []) ⟨hx, hb, hml, hown, hts⟩ (d_begins l E s.heap.size mo m_tape m_readPlace m_script m_scriptLong m_now m_refused m_shareX m_shareY m_askedRow m_kept m_aside m_spelled m_image) (cwV 0 hts g_d_readScript0_d_begins_163 rfl rfl rfl (by decide +kernel) ⟨Nat.le_of_ble_eq_true rfl, Nat.le_of_ble_eq_true rfl⟩) ⟨pW.blind, va_recv hK hPc (ci := 9) (q0 := 0) rfl rfl, (pW.pre ⟨hK, hN⟩ hPc hDc)⟩ rfl rfl hl.1 rfl (lv_room (Nat.le_of_ble_eq_true rfl)) dX8_readScript_1 ⟨Nat.le_of_ble_eq_true rfl, Nat.le_of_ble_eq_true rfl⟩) hS (fun q _ h => hFc q h) hFc (fun  u tt H1 locs ht hvm hw hB hz1 hk1 hS => ?_)
  obtain ⟨hP1, hD1⟩ := hB
  rw [ht] at hP1
  obtain ⟨hP, hD⟩ := va_join (wr := [(m_scriptLong, .inl (E.2.1, 5, .inl (fun _ => 0)))]) (w1 := [(mo, .inr (9, [.int 0, .ref m_tape, .int 0, .int 0, .int 0, .int 0, .int 0, .int (-1), .long 0, .int 0, .int 0, .int 0, .int 0, .ref m_readPlace, .ref m_script, .ref m_scriptLong, .int 0, .ref m_now, .ref m_refused, .int 0, .ref m_shareX, .ref m_shareY, .int 0, .int 0, .ref m_askedRow, .int 0, .ref m_kept, .int 0, .long 0, .ref m_aside, .int 0, .int 0, .ref m_spelled, .int 0, .ref m_image, .int 0]))]) hP hD [0] [1] rfl rfl (by decide) (by decide) hk1 hFc hP1 hD1
  generalize H1 = H at hP hS ⊢
  have hP : va_P E.1 vwCl [(m_scriptLong, .inl (E.2.1, 5, .inl (fun _ => 0))), (mo, .inr (9, [.int 0, .ref m_tape, .int 0, .int 0, .int 0, .int 0, .int 0, .int (-1), .long 0, .int 0, .int 0, .int 0, .int 0, .ref m_readPlace, .ref m_script, .ref m_scriptLong, .int 0, .ref m_now, .ref m_refused, .int 0, .ref m_shareX, .ref m_shareY, .int 0, .int 0, .ref m_askedRow, .int 0, .ref m_kept, .int 0, .long 0, .ref m_aside, .int 0, .int 0, .ref m_spelled, .int 0, .ref m_image, .int 0]))] H := hP
  have hD : va_D A [(m_scriptLong, .inl (E.2.1, 5, .inl (fun _ => 0))), (mo, .inr (9, [.int 0, .ref m_tape, .int 0, .int 0, .int 0, .int 0, .int 0, .int (-1), .long 0, .int 0, .int 0, .int 0, .int 0, .ref m_readPlace, .ref m_script, .ref m_scriptLong, .int 0, .ref m_now, .ref m_refused, .int 0, .ref m_shareX, .ref m_shareY, .int 0, .int 0, .ref m_askedRow, .int 0, .ref m_kept, .int 0, .long 0, .ref m_aside, .int 0, .int 0, .ref m_spelled, .int 0, .ref m_image, .int 0]))] := hD
  refine lv_aload_n hx hb dX8_readScript_4 rfl (lv_at hl 0 rfl) ?_
  refine va_get (D := E.1) (ci := 9) (v := .ref m_scriptLong) (C := RX8) (T := TX8) (N := 36) hx hb hts i_d_readScript0_X8 hown hK hP 1 rfl rfl 15 (by decide) (hts (.fieldLink RX8 19 "HushWatchModel" "scriptLong" "[I") (List.mem_of_getElem? (i := 1) rfl)) (fun _ h9 => h9) rfl dX8_readScript_5 ?_
  refine lv_iload_n hx hb dX8_readScript_8 rfl (lv_at hl 1 rfl) ?_
  refine lv_iconst (v := 0) hx hb dX8_readScript_9 (by decide) ?_
  refine va_iast hx hb hK hP hD hS 0 0 rfl rfl (vin rfl) dX8_readScript_10 (fun H locs hP hD hS => ?_)
  have hP : va_P E.1 vwCl [(m_scriptLong, .inl (E.2.1, 5, .inl (upd (fun _ => 0) (0 : Int32).toNatClampNeg 0))), (mo, .inr (9, [.int 0, .ref m_tape, .int 0, .int 0, .int 0, .int 0, .int 0, .int (-1), .long 0, .int 0, .int 0, .int 0, .int 0, .ref m_readPlace, .ref m_script, .ref m_scriptLong, .int 0, .ref m_now, .ref m_refused, .int 0, .ref m_shareX, .ref m_shareY, .int 0, .int 0, .ref m_askedRow, .int 0, .ref m_kept, .int 0, .long 0, .ref m_aside, .int 0, .int 0, .ref m_spelled, .int 0, .ref m_image, .int 0]))] H := hP
  have hD : va_D A [(m_scriptLong, .inl (E.2.1, 5, .inl (upd (fun _ => 0) (0 : Int32).toNatClampNeg 0))), (mo, .inr (9, [.int 0, .ref m_tape, .int 0, .int 0, .int 0, .int 0, .int 0, .int (-1), .long 0, .int 0, .int 0, .int 0, .int 0, .ref m_readPlace, .ref m_script, .ref m_scriptLong, .int 0, .ref m_now, .ref m_refused, .int 0, .ref m_shareX, .ref m_shareY, .int 0, .int 0, .ref m_askedRow, .int 0, .ref m_kept, .int 0, .long 0, .ref m_aside, .int 0, .int 0, .ref m_spelled, .int 0, .ref m_image, .int 0]))] := hD
  generalize upd (fun _ => 0) (0 : Int32).toNatClampNeg 0 = f_1 at hP hD
  refine lv_iconst (v := 1) hx hb dX8_readScript_11 (by decide) ?_
  refine lv_istore_n (lv' := [(2, .int 1), (0, .ref mo), (1, .int 0)]) hx hb dX8_readScript_12 rfl hl (by decide) rfl (fun ls hl => ?_)
  refine lv_iload_n hx hb dX8_readScript_13 rfl (lv_at hl 0 rfl) ?_
  refine lv_if_eq (tgt := 88) hx hb dX8_readScript_14 (by decide) (fun q => absurd q (by decide)) (fun _ => ?_)
  refine lv_aload_n hx hb dX8_readScript_17 rfl (lv_at hl 1 rfl) ?_
  refine lv_iconst (v := 4) hx hb dX8_readScript_18 (by decide) ?_
  refine lv_bipush (v := 12) hx hb dX8_readScript_19 (by decide) ?_
  refine lv_iload_n hx hb dX8_readScript_21 rfl (lv_at hl 2 rfl) ?_
  refine lv_imul hx hb dX8_readScript_22 ?_
  refine lv_topi (fun z_2 ez_2 => ?_)
  obtain rfl : z_2 = 0 := ez_2.trans (by decide)
  refine lv_aload_n hx hb dX8_readScript_23 rfl (lv_at hl 1 rfl) ?_
  refine va_get (D := E.1) (ci := 9) (v := .ref m_scriptLong) (C := RX8) (T := TX8) (N := 36) hx hb hts i_d_readScript0_X8 hown hK hP 1 rfl rfl 15 (by decide) (hts (.fieldLink RX8 19 "HushWatchModel" "scriptLong" "[I") (List.mem_of_getElem? (i := 1) rfl)) (fun _ h9 => h9) rfl dX8_readScript_24 ?_
  refine lv_iload_n hx hb dX8_readScript_27 rfl (lv_at hl 2 rfl) ?_
  refine va_iald hx hb hK hP 0 0 rfl rfl (vin rfl) dX8_readScript_28 ?_
  refine W.eq (g2 := F0 m 29 ls [.int (f_1 0), .int 0, .int 4, .ref mo]) rfl ?_
  refine lv_iadd hx hb dX8_readScript_29 ?_
  refine lv_topi (fun z_3 ez_3 => ?_)
  refine lv_imul hx hb dX8_readScript_30 ?_
  refine lv_topi (fun z_4 ez_4 => ?_)
  have hPc := hP.sub (ws' := [(mo, .inr (9, [.int 0, .ref m_tape, .int 0, .int 0, .int 0, .int 0, .int 0, .int (-1), .long 0, .int 0, .int 0, .int 0, .int 0, .ref m_readPlace, .ref m_script, .ref m_scriptLong, .int 0, .ref m_now, .ref m_refused, .int 0, .ref m_shareX, .ref m_shareY, .int 0, .int 0, .ref m_askedRow, .int 0, .ref m_kept, .int 0, .long 0, .ref m_aside, .int 0, .int 0, .ref m_spelled, .int 0, .ref m_image, .int 0]))]) [1] rfl
  have hDc := hD.sub (ws' := [(mo, .inr (9, [.int 0, .ref m_tape, .int 0, .int 0, .int 0, .int 0, .int 0, .int (-1), .long 0, .int 0, .int 0, .int 0, .int 0, .ref m_readPlace, .ref m_script, .ref m_scriptLong, .int 0, .ref m_now, .ref m_refused, .int 0, .ref m_shareX, .ref m_shareY, .int 0, .int 0, .ref m_askedRow, .int 0, .ref m_kept, .int 0, .long 0, .ref m_aside, .int 0, .int 0, .ref m_spelled, .int 0, .ref m_image, .int 0]))]) [1] (by decide) rfl
  have hFc := va_free (wc := [(mo, .inr (9, [.int 0, .ref m_tape, .int 0, .int 0, .int 0, .int 0, .int 0, .int (-1), .long 0, .int 0, .int 0, .int 0, .int 0, .ref m_readPlace, .ref m_script, .ref m_scriptLong, .int 0, .ref m_now, .ref m_refused, .int 0, .ref m_shareX, .ref m_shareY, .int 0, .int 0, .ref m_askedRow, .int 0, .ref m_kept, .int 0, .long 0, .ref m_aside, .int 0, .int 0, .ref m_spelled, .int 0, .ref m_image, .int 0]))]) hD hS hA [1] rfl
  refine va_callv (va_runV (As := [.int z_4]) (rest := []) ⟨hx, hb, hml, hown, hts⟩ (d_readStep l E H.size mo m_tape m_readPlace m_script m_scriptLong m_now m_refused m_shareX m_shareY m_askedRow m_kept m_aside m_spelled m_image 0 0 z_4) (cwV 1 hts g_d_readScript0_d_readStep_186 rfl rfl rfl (by decide +kernel) ⟨Nat.le_of_ble_eq_true rfl, Nat.le_of_ble_eq_true rfl⟩) ⟨pWZ.blind, va_recv hK hPc (ci := 9) (q0 := 0) rfl rfl, (pWZ.pre ⟨hK, hN⟩ hPc hDc hZ hS hFc)⟩ rfl rfl hl.1 rfl (lv_room (Nat.le_of_ble_eq_true rfl)) dX8_readScript_31 ⟨Nat.le_of_ble_eq_true rfl, Nat.le_of_ble_eq_true rfl⟩) hS (fun q _ h => hFc q h) hFc (fun  u tt H1 locs ht hvm hw hB hz1 hk1 hS => ?_)
  obtain ⟨hP1, hD1⟩ := hB
  rw [ht] at hP1
  obtain ⟨hP, hD⟩ := va_join (wr := [(m_scriptLong, .inl (E.2.1, 5, .inl f_1))]) (w1 := [(mo, .inr (9, [.int 0, .ref m_tape, .int 0, .int 0, .int 0, .int 0, .int 0, .int 0, .long 0, .int 0, .int 0, .int 0, .int 0, .ref m_readPlace, .ref m_script, .ref m_scriptLong, .int 0, .ref m_now, .ref m_refused, .int 0, .ref m_shareX, .ref m_shareY, .int 0, .int 0, .ref m_askedRow, .int 0, .ref m_kept, .int 0, .long 0, .ref m_aside, .int 0, .int 0, .ref m_spelled, .int 0, .ref m_image, .int 0]))]) hP hD [1] [0] rfl rfl (by decide) (by decide) hk1 hFc hP1 hD1
  generalize H1 = H at hP hS ⊢
  have hP : va_P E.1 vwCl [(m_scriptLong, .inl (E.2.1, 5, .inl f_1)), (mo, .inr (9, [.int 0, .ref m_tape, .int 0, .int 0, .int 0, .int 0, .int 0, .int 0, .long 0, .int 0, .int 0, .int 0, .int 0, .ref m_readPlace, .ref m_script, .ref m_scriptLong, .int 0, .ref m_now, .ref m_refused, .int 0, .ref m_shareX, .ref m_shareY, .int 0, .int 0, .ref m_askedRow, .int 0, .ref m_kept, .int 0, .long 0, .ref m_aside, .int 0, .int 0, .ref m_spelled, .int 0, .ref m_image, .int 0]))] H := hP
  have hD : va_D A [(m_scriptLong, .inl (E.2.1, 5, .inl f_1)), (mo, .inr (9, [.int 0, .ref m_tape, .int 0, .int 0, .int 0, .int 0, .int 0, .int 0, .long 0, .int 0, .int 0, .int 0, .int 0, .ref m_readPlace, .ref m_script, .ref m_scriptLong, .int 0, .ref m_now, .ref m_refused, .int 0, .ref m_shareX, .ref m_shareY, .int 0, .int 0, .ref m_askedRow, .int 0, .ref m_kept, .int 0, .long 0, .ref m_aside, .int 0, .int 0, .ref m_spelled, .int 0, .ref m_image, .int 0]))] := hD
  refine lv_aload_n hx hb dX8_readScript_34 rfl (lv_at hl 1 rfl) ?_
  refine va_get (D := E.1) (ci := 9) (v := .ref m_scriptLong) (C := RX8) (T := TX8) (N := 36) hx hb hts i_d_readScript0_X8 hown hK hP 1 rfl rfl 15 (by decide) (hts (.fieldLink RX8 19 "HushWatchModel" "scriptLong" "[I") (List.mem_of_getElem? (i := 1) rfl)) (fun _ h9 => h9) rfl dX8_readScript_35 ?_
  refine lv_iload_n hx hb dX8_readScript_38 rfl (lv_at hl 2 rfl) ?_
  refine lv_dup2_11 hx hb dX8_readScript_39 rfl rfl ?_
  refine va_iald hx hb hK hP 0 0 rfl rfl (vin rfl) dX8_readScript_40 ?_
  refine W.eq (g2 := F0 m 41 ls [.int (f_1 0), .int 0, .ref m_scriptLong]) rfl ?_
  refine lv_iconst (v := 1) hx hb dX8_readScript_41 (by decide) ?_
  refine lv_iadd hx hb dX8_readScript_42 ?_
  refine lv_topi (fun z_5 ez_5 => ?_)
  refine va_iast hx hb hK hP hD hS 0 0 rfl rfl (vin rfl) dX8_readScript_43 (fun H locs hP hD hS => ?_)
  have hP : va_P E.1 vwCl [(m_scriptLong, .inl (E.2.1, 5, .inl (upd f_1 (0 : Int32).toNatClampNeg z_5))), (mo, .inr (9, [.int 0, .ref m_tape, .int 0, .int 0, .int 0, .int 0, .int 0, .int 0, .long 0, .int 0, .int 0, .int 0, .int 0, .ref m_readPlace, .ref m_script, .ref m_scriptLong, .int 0, .ref m_now, .ref m_refused, .int 0, .ref m_shareX, .ref m_shareY, .int 0, .int 0, .ref m_askedRow, .int 0, .ref m_kept, .int 0, .long 0, .ref m_aside, .int 0, .int 0, .ref m_spelled, .int 0, .ref m_image, .int 0]))] H := hP
  have hD : va_D A [(m_scriptLong, .inl (E.2.1, 5, .inl (upd f_1 (0 : Int32).toNatClampNeg z_5))), (mo, .inr (9, [.int 0, .ref m_tape, .int 0, .int 0, .int 0, .int 0, .int 0, .int 0, .long 0, .int 0, .int 0, .int 0, .int 0, .ref m_readPlace, .ref m_script, .ref m_scriptLong, .int 0, .ref m_now, .ref m_refused, .int 0, .ref m_shareX, .ref m_shareY, .int 0, .int 0, .ref m_askedRow, .int 0, .ref m_kept, .int 0, .long 0, .ref m_aside, .int 0, .int 0, .ref m_spelled, .int 0, .ref m_image, .int 0]))] := hD
  generalize upd f_1 (0 : Int32).toNatClampNeg z_5 = f_6 at hP hD
  refine lv_aload_n hx hb dX8_readScript_44 rfl (lv_at hl 1 rfl) ?_
  refine va_get (D := E.1) (ci := 9) (v := .int 0) (C := RX8) (T := TX8) (N := 36) hx hb hts i_d_readScript0_X8 hown hK hP 1 rfl rfl 7 (by decide) (hts (.fieldLink RX8 103 "HushWatchModel" "wrong" "I") (List.mem_of_getElem? (i := 2) rfl)) (fun _ h9 => h9) rfl dX8_readScript_45 ?_
  refine lv_iconst (v := -1) hx hb dX8_readScript_48 (by decide) ?_
  refine lv_icmp_ne (tgt := 75) hx hb dX8_readScript_49 (by decide) (fun _ => ?_) (fun q => absurd q (by decide))
  refine lv_iconst (v := 0) hx hb dX8_readScript_75 (by decide) ?_
  refine lv_istore_n (lv' := [(2, .int 0), (0, .ref mo), (1, .int 0)]) hx hb dX8_readScript_76 rfl hl (by decide) rfl (fun ls hl => ?_)
  refine lv_iload_n hx hb dX8_readScript_77 rfl (lv_at hl 0 rfl) ?_
  refine lv_if_eq (tgt := 13) hx hb dX8_readScript_78 (by decide) (fun _ => ?_) (fun q => absurd (by decide) q)
  refine lv_iload_n hx hb dX8_readScript_13 rfl (lv_at hl 0 rfl) ?_
  refine lv_if_eq (tgt := 88) hx hb dX8_readScript_14 (by decide) (fun _ => ?_) (fun q => absurd (by decide) q)
  refine lv_aload_n hx hb dX8_readScript_88 rfl (lv_at hl 1 rfl) ?_
  refine va_get (D := E.1) (ci := 9) (v := .int 0) (C := RX8) (T := TX8) (N := 36) hx hb hts i_d_readScript0_X8 hown hK hP 1 rfl rfl 7 (by decide) (hts (.fieldLink RX8 103 "HushWatchModel" "wrong" "I") (List.mem_of_getElem? (i := 2) rfl)) (fun _ h9 => h9) rfl dX8_readScript_89 ?_
  refine lv_iconst (v := -1) hx hb dX8_readScript_92 (by decide) ?_
  refine lv_icmp_ne (tgt := 107) hx hb dX8_readScript_93 (by decide) (fun _ => ?_) (fun q => absurd q (by decide))
  refine lv_aload_n hx hb dX8_readScript_107 rfl (lv_at hl 1 rfl) ?_
  refine va_get (D := E.1) (ci := 9) (v := .int 0) (C := RX8) (T := TX8) (N := 36) hx hb hts i_d_readScript0_X8 hown hK hP 1 rfl rfl 7 (by decide) (hts (.fieldLink RX8 103 "HushWatchModel" "wrong" "I") (List.mem_of_getElem? (i := 2) rfl)) (fun _ h9 => h9) rfl dX8_readScript_108 ?_
  have hP9 : va_P E.1 vwCl [] H := fun k q h => by simp at h
  have hD9 : va_D A [] := ⟨fun i j p q h => by simp at h, fun k q h => by simp at h⟩
  exact W.iret (v := 0) hx hb hr (fun tt ht hW => ⟨⟨_, (), rfl, rfl, by rw [ht]; exact hP9, hD9⟩, hS.F ht⟩) hS.2.2 dX8_readScript_111

def v_d_readScript4 : List Cond := .code yX8_readScript cX8_readScript 3 (some .int) :: ([.fieldLink RX8 19 "HushWatchModel" "scriptLong" "[I", .fieldLink RX8 103 "HushWatchModel" "wrong" "I", .methodLink RX8 163 yX8_begins, .instanceMethod yX8_begins, .selects RX8 yX8_begins yX8_begins, .initialized RX8, .methodLink RX8 186 yX8_readStep, .instanceMethod yX8_readStep, .selects RX8 yX8_readStep yX8_readStep] ++ (v_d_begins ++ (wsX80 ++ (v_d_readStep ++ ([])))))
theorem gw_d_readScript4 : v_d_readScript4.all goodWord = true := by decide +kernel
theorem i_d_readScript4_X8 : ∀ w ∈ wsX80, w ∈ v_d_readScript4 := fun _ h => List.mem_cons_of_mem _ (List.mem_append_right _ (List.mem_append_right _ (List.mem_append_left _ h)))
theorem g_d_readScript4_d_begins_163 : GoodIn v_d_readScript4 (wsV RX8 163 RX8 yX8_begins v_d_begins) := goodIn_app (goodIn_of _ (by decide +kernel)) (goodIn_sub (fun _ h => List.mem_cons_of_mem _ (List.mem_append_right _ (List.mem_append_left _ h))) gw_d_begins)
theorem g_d_readScript4_d_readStep_186 : GoodIn v_d_readScript4 (wsV RX8 186 RX8 yX8_readStep v_d_readStep) := goodIn_app (goodIn_of _ (by decide +kernel)) (goodIn_sub (fun _ h => List.mem_cons_of_mem _ (List.mem_append_right _ (List.mem_append_right _ (List.mem_append_right _ (List.mem_append_left _ h))))) gw_d_readStep)
set_option maxHeartbeats 4000000 in
set_option maxRecDepth 100000 in
theorem d_readScript4 (l : Launch) (E : EE) (sz : Nat) (mo m_tape m_readPlace m_script m_scriptLong m_now m_refused m_shareX m_shareY m_askedRow m_kept m_aside m_spelled m_image : Nat) : Met l yX8_readScript v_d_readScript4 ({ frames := 3, cells := 0, slots := 0, locals := 61 }) (va_Pc [.ref mo, .int 4] (pWZ E sz [(mo, .inr (9, [.int 0, .ref m_tape, .int 0, .int 0, .int 0, .int 0, .int 0, .int 0, .long 0, .int 0, .int 0, .int 0, .int 0, .ref m_readPlace, .ref m_script, .ref m_scriptLong, .int 0, .ref m_now, .ref m_refused, .int 0, .ref m_shareX, .ref m_shareY, .int 0, .int 0, .ref m_askedRow, .int 0, .ref m_kept, .int 0, .long 0, .ref m_aside, .int 0, .int 0, .ref m_spelled, .int 0, .ref m_image, .int 0])), (m_scriptLong, .inl (E.2.1, 5, .inl (fun _ => 0)))])) (va_Qi (fun r (_u : Unit) => r = 0) (fun (_u : Unit) tt => va_P E.1 vwCl [] tt.heap ∧ va_D (va_A [(mo, .inr (9, [.int 0, .ref m_tape, .int 0, .int 0, .int 0, .int 0, .int 0, .int 0, .long 0, .int 0, .int 0, .int 0, .int 0, .ref m_readPlace, .ref m_script, .ref m_scriptLong, .int 0, .ref m_now, .ref m_refused, .int 0, .ref m_shareX, .ref m_shareY, .int 0, .int 0, .ref m_askedRow, .int 0, .ref m_kept, .int 0, .long 0, .ref m_aside, .int 0, .int 0, .ref m_spelled, .int 0, .ref m_image, .int 0])), (m_scriptLong, .inl (E.2.1, 5, .inl (fun _ => 0)))] sz) []) (va_A [(mo, .inr (9, [.int 0, .ref m_tape, .int 0, .int 0, .int 0, .int 0, .int 0, .int 0, .long 0, .int 0, .int 0, .int 0, .int 0, .ref m_readPlace, .ref m_script, .ref m_scriptLong, .int 0, .ref m_now, .ref m_refused, .int 0, .ref m_shareX, .ref m_shareY, .int 0, .int 0, .ref m_askedRow, .int 0, .ref m_kept, .int 0, .long 0, .ref m_aside, .int 0, .int 0, .ref m_spelled, .int 0, .ref m_image, .int 0])), (m_scriptLong, .inl (E.2.1, 5, .inl (fun _ => 0)))] sz)) 0 0 (va_A [(mo, .inr (9, [.int 0, .ref m_tape, .int 0, .int 0, .int 0, .int 0, .int 0, .int 0, .long 0, .int 0, .int 0, .int 0, .int 0, .ref m_readPlace, .ref m_script, .ref m_scriptLong, .int 0, .ref m_now, .ref m_refused, .int 0, .ref m_shareX, .ref m_shareY, .int 0, .int 0, .ref m_askedRow, .int 0, .ref m_kept, .int 0, .long 0, .ref m_aside, .int 0, .int 0, .ref m_spelled, .int 0, .ref m_image, .int 0])), (m_scriptLong, .inl (E.2.1, 5, .inl (fun _ => 0)))] sz) := by
  refine Met.ofW (cc := cX8_readScript) (maxL := 3) (ret := (some .int)) (by decide) rfl ?_
  intro p e s m args below meth c s₁ B hml hv
  obtain ⟨rfl, hsz, ⟨hK, hN⟩, hP, hD0, hZ⟩ := hv
  have hx := B.exec
  have hb := B.bytes
  have hr := B.returns
  have hts := atoms_spec (ws := v_d_readScript4) B.pre
  have hown : s.vm.findClass RX8 = some m.cls := findClass_of_methodNamed B.named
  have hlocks := B.notSynchronized
  subst hsz
  have hD := hD0.self (sz := s.heap.size)
  generalize hAe : va_A [(mo, .inr (9, [.int 0, .ref m_tape, .int 0, .int 0, .int 0, .int 0, .int 0, .int 0, .long 0, .int 0, .int 0, .int 0, .int 0, .ref m_readPlace, .ref m_script, .ref m_scriptLong, .int 0, .ref m_now, .ref m_refused, .int 0, .ref m_shareX, .ref m_shareY, .int 0, .int 0, .ref m_askedRow, .int 0, .ref m_kept, .int 0, .long 0, .ref m_aside, .int 0, .int 0, .ref m_spelled, .int 0, .ref m_image, .int 0])), (m_scriptLong, .inl (E.2.1, 5, .inl (fun _ => 0)))] s.heap.size = A at hD hZ ⊢
  have hA : ∀ q : Nat, s.heap.size ≤ q → A q := fun q h => by rw [← hAe]; exact Or.inr h
  have hS : va_S A s.heap s.heap [] := va_S.rf
  have hP : va_P E.1 vwCl [(mo, .inr (9, [.int 0, .ref m_tape, .int 0, .int 0, .int 0, .int 0, .int 0, .int 0, .long 0, .int 0, .int 0, .int 0, .int 0, .ref m_readPlace, .ref m_script, .ref m_scriptLong, .int 0, .ref m_now, .ref m_refused, .int 0, .ref m_shareX, .ref m_shareY, .int 0, .int 0, .ref m_askedRow, .int 0, .ref m_kept, .int 0, .long 0, .ref m_aside, .int 0, .int 0, .ref m_spelled, .int 0, .ref m_image, .int 0])), (m_scriptLong, .inl (E.2.1, 5, .inl (fun _ => 0)))] s.heap := hP
  have hl := lv_entry ([.ref mo, .int 4]) (n := 3) (Nat.le_of_ble_eq_true rfl)
  rw [lg_entry_eq]
  generalize (lg_sl ([.ref mo, .int 4]) ++ List.replicate (3 - (lg_sl ([.ref mo, .int 4])).length) Slot.unset).toArray = ls at hl ⊢
  have hl : lv_has ls 3 [(0, .ref mo), (1, .int 4)] := hl
  refine lv_aload_n hx hb dX8_readScript_0 rfl (lv_at hl 0 rfl) ?_
  have hPc := hP.sub (ws' := [(mo, .inr (9, [.int 0, .ref m_tape, .int 0, .int 0, .int 0, .int 0, .int 0, .int 0, .long 0, .int 0, .int 0, .int 0, .int 0, .ref m_readPlace, .ref m_script, .ref m_scriptLong, .int 0, .ref m_now, .ref m_refused, .int 0, .ref m_shareX, .ref m_shareY, .int 0, .int 0, .ref m_askedRow, .int 0, .ref m_kept, .int 0, .long 0, .ref m_aside, .int 0, .int 0, .ref m_spelled, .int 0, .ref m_image, .int 0]))]) [0] rfl
  have hDc := hD.sub (ws' := [(mo, .inr (9, [.int 0, .ref m_tape, .int 0, .int 0, .int 0, .int 0, .int 0, .int 0, .long 0, .int 0, .int 0, .int 0, .int 0, .ref m_readPlace, .ref m_script, .ref m_scriptLong, .int 0, .ref m_now, .ref m_refused, .int 0, .ref m_shareX, .ref m_shareY, .int 0, .int 0, .ref m_askedRow, .int 0, .ref m_kept, .int 0, .long 0, .ref m_aside, .int 0, .int 0, .ref m_spelled, .int 0, .ref m_image, .int 0]))]) [0] (by decide) rfl
  have hFc := va_free (wc := [(mo, .inr (9, [.int 0, .ref m_tape, .int 0, .int 0, .int 0, .int 0, .int 0, .int 0, .long 0, .int 0, .int 0, .int 0, .int 0, .ref m_readPlace, .ref m_script, .ref m_scriptLong, .int 0, .ref m_now, .ref m_refused, .int 0, .ref m_shareX, .ref m_shareY, .int 0, .int 0, .ref m_askedRow, .int 0, .ref m_kept, .int 0, .long 0, .ref m_aside, .int 0, .int 0, .ref m_spelled, .int 0, .ref m_image, .int 0]))]) hD hS hA [0] rfl
  refine va_callv (va_runV (As := []) (rest := []) ⟨hx, hb, hml, hown, hts⟩ (d_begins l E s.heap.size mo m_tape m_readPlace m_script m_scriptLong m_now m_refused m_shareX m_shareY m_askedRow m_kept m_aside m_spelled m_image) (cwV 0 hts g_d_readScript4_d_begins_163 rfl rfl rfl (by decide +kernel) ⟨Nat.le_of_ble_eq_true rfl, Nat.le_of_ble_eq_true rfl⟩) ⟨pW.blind, va_recv hK hPc (ci := 9) (q0 := 0) rfl rfl, (pW.pre ⟨hK, hN⟩ hPc hDc)⟩ rfl rfl hl.1 rfl (lv_room (Nat.le_of_ble_eq_true rfl)) dX8_readScript_1 ⟨Nat.le_of_ble_eq_true rfl, Nat.le_of_ble_eq_true rfl⟩) hS (fun q _ h => hFc q h) hFc (fun  u tt H1 locs ht hvm hw hB hz1 hk1 hS => ?_)
  obtain ⟨hP1, hD1⟩ := hB
  rw [ht] at hP1
  obtain ⟨hP, hD⟩ := va_join (wr := [(m_scriptLong, .inl (E.2.1, 5, .inl (fun _ => 0)))]) (w1 := [(mo, .inr (9, [.int 0, .ref m_tape, .int 0, .int 0, .int 0, .int 0, .int 0, .int (-1), .long 0, .int 0, .int 0, .int 0, .int 0, .ref m_readPlace, .ref m_script, .ref m_scriptLong, .int 0, .ref m_now, .ref m_refused, .int 0, .ref m_shareX, .ref m_shareY, .int 0, .int 0, .ref m_askedRow, .int 0, .ref m_kept, .int 0, .long 0, .ref m_aside, .int 0, .int 0, .ref m_spelled, .int 0, .ref m_image, .int 0]))]) hP hD [0] [1] rfl rfl (by decide) (by decide) hk1 hFc hP1 hD1
  generalize H1 = H at hP hS ⊢
  have hP : va_P E.1 vwCl [(m_scriptLong, .inl (E.2.1, 5, .inl (fun _ => 0))), (mo, .inr (9, [.int 0, .ref m_tape, .int 0, .int 0, .int 0, .int 0, .int 0, .int (-1), .long 0, .int 0, .int 0, .int 0, .int 0, .ref m_readPlace, .ref m_script, .ref m_scriptLong, .int 0, .ref m_now, .ref m_refused, .int 0, .ref m_shareX, .ref m_shareY, .int 0, .int 0, .ref m_askedRow, .int 0, .ref m_kept, .int 0, .long 0, .ref m_aside, .int 0, .int 0, .ref m_spelled, .int 0, .ref m_image, .int 0]))] H := hP
  have hD : va_D A [(m_scriptLong, .inl (E.2.1, 5, .inl (fun _ => 0))), (mo, .inr (9, [.int 0, .ref m_tape, .int 0, .int 0, .int 0, .int 0, .int 0, .int (-1), .long 0, .int 0, .int 0, .int 0, .int 0, .ref m_readPlace, .ref m_script, .ref m_scriptLong, .int 0, .ref m_now, .ref m_refused, .int 0, .ref m_shareX, .ref m_shareY, .int 0, .int 0, .ref m_askedRow, .int 0, .ref m_kept, .int 0, .long 0, .ref m_aside, .int 0, .int 0, .ref m_spelled, .int 0, .ref m_image, .int 0]))] := hD
  refine lv_aload_n hx hb dX8_readScript_4 rfl (lv_at hl 0 rfl) ?_
  refine va_get (D := E.1) (ci := 9) (v := .ref m_scriptLong) (C := RX8) (T := TX8) (N := 36) hx hb hts i_d_readScript4_X8 hown hK hP 1 rfl rfl 15 (by decide) (hts (.fieldLink RX8 19 "HushWatchModel" "scriptLong" "[I") (List.mem_of_getElem? (i := 1) rfl)) (fun _ h9 => h9) rfl dX8_readScript_5 ?_
  refine lv_iload_n hx hb dX8_readScript_8 rfl (lv_at hl 1 rfl) ?_
  refine lv_iconst (v := 0) hx hb dX8_readScript_9 (by decide) ?_
  refine va_iast hx hb hK hP hD hS 0 0 rfl rfl (vin rfl) dX8_readScript_10 (fun H locs hP hD hS => ?_)
  have hP : va_P E.1 vwCl [(m_scriptLong, .inl (E.2.1, 5, .inl (upd (fun _ => 0) (4 : Int32).toNatClampNeg 0))), (mo, .inr (9, [.int 0, .ref m_tape, .int 0, .int 0, .int 0, .int 0, .int 0, .int (-1), .long 0, .int 0, .int 0, .int 0, .int 0, .ref m_readPlace, .ref m_script, .ref m_scriptLong, .int 0, .ref m_now, .ref m_refused, .int 0, .ref m_shareX, .ref m_shareY, .int 0, .int 0, .ref m_askedRow, .int 0, .ref m_kept, .int 0, .long 0, .ref m_aside, .int 0, .int 0, .ref m_spelled, .int 0, .ref m_image, .int 0]))] H := hP
  have hD : va_D A [(m_scriptLong, .inl (E.2.1, 5, .inl (upd (fun _ => 0) (4 : Int32).toNatClampNeg 0))), (mo, .inr (9, [.int 0, .ref m_tape, .int 0, .int 0, .int 0, .int 0, .int 0, .int (-1), .long 0, .int 0, .int 0, .int 0, .int 0, .ref m_readPlace, .ref m_script, .ref m_scriptLong, .int 0, .ref m_now, .ref m_refused, .int 0, .ref m_shareX, .ref m_shareY, .int 0, .int 0, .ref m_askedRow, .int 0, .ref m_kept, .int 0, .long 0, .ref m_aside, .int 0, .int 0, .ref m_spelled, .int 0, .ref m_image, .int 0]))] := hD
  generalize upd (fun _ => 0) (4 : Int32).toNatClampNeg 0 = f_1 at hP hD
  refine lv_iconst (v := 1) hx hb dX8_readScript_11 (by decide) ?_
  refine lv_istore_n (lv' := [(2, .int 1), (0, .ref mo), (1, .int 4)]) hx hb dX8_readScript_12 rfl hl (by decide) rfl (fun ls hl => ?_)
  refine lv_iload_n hx hb dX8_readScript_13 rfl (lv_at hl 0 rfl) ?_
  refine lv_if_eq (tgt := 88) hx hb dX8_readScript_14 (by decide) (fun q => absurd q (by decide)) (fun _ => ?_)
  refine lv_aload_n hx hb dX8_readScript_17 rfl (lv_at hl 1 rfl) ?_
  refine lv_iconst (v := 4) hx hb dX8_readScript_18 (by decide) ?_
  refine lv_bipush (v := 12) hx hb dX8_readScript_19 (by decide) ?_
  refine lv_iload_n hx hb dX8_readScript_21 rfl (lv_at hl 2 rfl) ?_
  refine lv_imul hx hb dX8_readScript_22 ?_
  refine lv_topi (fun z_2 ez_2 => ?_)
  obtain rfl : z_2 = 48 := ez_2.trans (by decide)
  refine lv_aload_n hx hb dX8_readScript_23 rfl (lv_at hl 1 rfl) ?_
  refine va_get (D := E.1) (ci := 9) (v := .ref m_scriptLong) (C := RX8) (T := TX8) (N := 36) hx hb hts i_d_readScript4_X8 hown hK hP 1 rfl rfl 15 (by decide) (hts (.fieldLink RX8 19 "HushWatchModel" "scriptLong" "[I") (List.mem_of_getElem? (i := 1) rfl)) (fun _ h9 => h9) rfl dX8_readScript_24 ?_
  refine lv_iload_n hx hb dX8_readScript_27 rfl (lv_at hl 2 rfl) ?_
  refine va_iald hx hb hK hP 0 0 rfl rfl (vin rfl) dX8_readScript_28 ?_
  refine W.eq (g2 := F0 m 29 ls [.int (f_1 4), .int 48, .int 4, .ref mo]) rfl ?_
  refine lv_iadd hx hb dX8_readScript_29 ?_
  refine lv_topi (fun z_3 ez_3 => ?_)
  refine lv_imul hx hb dX8_readScript_30 ?_
  refine lv_topi (fun z_4 ez_4 => ?_)
  have hPc := hP.sub (ws' := [(mo, .inr (9, [.int 0, .ref m_tape, .int 0, .int 0, .int 0, .int 0, .int 0, .int (-1), .long 0, .int 0, .int 0, .int 0, .int 0, .ref m_readPlace, .ref m_script, .ref m_scriptLong, .int 0, .ref m_now, .ref m_refused, .int 0, .ref m_shareX, .ref m_shareY, .int 0, .int 0, .ref m_askedRow, .int 0, .ref m_kept, .int 0, .long 0, .ref m_aside, .int 0, .int 0, .ref m_spelled, .int 0, .ref m_image, .int 0]))]) [1] rfl
  have hDc := hD.sub (ws' := [(mo, .inr (9, [.int 0, .ref m_tape, .int 0, .int 0, .int 0, .int 0, .int 0, .int (-1), .long 0, .int 0, .int 0, .int 0, .int 0, .ref m_readPlace, .ref m_script, .ref m_scriptLong, .int 0, .ref m_now, .ref m_refused, .int 0, .ref m_shareX, .ref m_shareY, .int 0, .int 0, .ref m_askedRow, .int 0, .ref m_kept, .int 0, .long 0, .ref m_aside, .int 0, .int 0, .ref m_spelled, .int 0, .ref m_image, .int 0]))]) [1] (by decide) rfl
  have hFc := va_free (wc := [(mo, .inr (9, [.int 0, .ref m_tape, .int 0, .int 0, .int 0, .int 0, .int 0, .int (-1), .long 0, .int 0, .int 0, .int 0, .int 0, .ref m_readPlace, .ref m_script, .ref m_scriptLong, .int 0, .ref m_now, .ref m_refused, .int 0, .ref m_shareX, .ref m_shareY, .int 0, .int 0, .ref m_askedRow, .int 0, .ref m_kept, .int 0, .long 0, .ref m_aside, .int 0, .int 0, .ref m_spelled, .int 0, .ref m_image, .int 0]))]) hD hS hA [1] rfl
  refine va_callv (va_runV (As := [.int z_4]) (rest := []) ⟨hx, hb, hml, hown, hts⟩ (d_readStep l E H.size mo m_tape m_readPlace m_script m_scriptLong m_now m_refused m_shareX m_shareY m_askedRow m_kept m_aside m_spelled m_image 0 0 z_4) (cwV 1 hts g_d_readScript4_d_readStep_186 rfl rfl rfl (by decide +kernel) ⟨Nat.le_of_ble_eq_true rfl, Nat.le_of_ble_eq_true rfl⟩) ⟨pWZ.blind, va_recv hK hPc (ci := 9) (q0 := 0) rfl rfl, (pWZ.pre ⟨hK, hN⟩ hPc hDc hZ hS hFc)⟩ rfl rfl hl.1 rfl (lv_room (Nat.le_of_ble_eq_true rfl)) dX8_readScript_31 ⟨Nat.le_of_ble_eq_true rfl, Nat.le_of_ble_eq_true rfl⟩) hS (fun q _ h => hFc q h) hFc (fun  u tt H1 locs ht hvm hw hB hz1 hk1 hS => ?_)
  obtain ⟨hP1, hD1⟩ := hB
  rw [ht] at hP1
  obtain ⟨hP, hD⟩ := va_join (wr := [(m_scriptLong, .inl (E.2.1, 5, .inl f_1))]) (w1 := [(mo, .inr (9, [.int 0, .ref m_tape, .int 0, .int 0, .int 0, .int 0, .int 0, .int 0, .long 0, .int 0, .int 0, .int 0, .int 0, .ref m_readPlace, .ref m_script, .ref m_scriptLong, .int 0, .ref m_now, .ref m_refused, .int 0, .ref m_shareX, .ref m_shareY, .int 0, .int 0, .ref m_askedRow, .int 0, .ref m_kept, .int 0, .long 0, .ref m_aside, .int 0, .int 0, .ref m_spelled, .int 0, .ref m_image, .int 0]))]) hP hD [1] [0] rfl rfl (by decide) (by decide) hk1 hFc hP1 hD1
  generalize H1 = H at hP hS ⊢
  have hP : va_P E.1 vwCl [(m_scriptLong, .inl (E.2.1, 5, .inl f_1)), (mo, .inr (9, [.int 0, .ref m_tape, .int 0, .int 0, .int 0, .int 0, .int 0, .int 0, .long 0, .int 0, .int 0, .int 0, .int 0, .ref m_readPlace, .ref m_script, .ref m_scriptLong, .int 0, .ref m_now, .ref m_refused, .int 0, .ref m_shareX, .ref m_shareY, .int 0, .int 0, .ref m_askedRow, .int 0, .ref m_kept, .int 0, .long 0, .ref m_aside, .int 0, .int 0, .ref m_spelled, .int 0, .ref m_image, .int 0]))] H := hP
  have hD : va_D A [(m_scriptLong, .inl (E.2.1, 5, .inl f_1)), (mo, .inr (9, [.int 0, .ref m_tape, .int 0, .int 0, .int 0, .int 0, .int 0, .int 0, .long 0, .int 0, .int 0, .int 0, .int 0, .ref m_readPlace, .ref m_script, .ref m_scriptLong, .int 0, .ref m_now, .ref m_refused, .int 0, .ref m_shareX, .ref m_shareY, .int 0, .int 0, .ref m_askedRow, .int 0, .ref m_kept, .int 0, .long 0, .ref m_aside, .int 0, .int 0, .ref m_spelled, .int 0, .ref m_image, .int 0]))] := hD
  refine lv_aload_n hx hb dX8_readScript_34 rfl (lv_at hl 1 rfl) ?_
  refine va_get (D := E.1) (ci := 9) (v := .ref m_scriptLong) (C := RX8) (T := TX8) (N := 36) hx hb hts i_d_readScript4_X8 hown hK hP 1 rfl rfl 15 (by decide) (hts (.fieldLink RX8 19 "HushWatchModel" "scriptLong" "[I") (List.mem_of_getElem? (i := 1) rfl)) (fun _ h9 => h9) rfl dX8_readScript_35 ?_
  refine lv_iload_n hx hb dX8_readScript_38 rfl (lv_at hl 2 rfl) ?_
  refine lv_dup2_11 hx hb dX8_readScript_39 rfl rfl ?_
  refine va_iald hx hb hK hP 0 0 rfl rfl (vin rfl) dX8_readScript_40 ?_
  refine W.eq (g2 := F0 m 41 ls [.int (f_1 4), .int 4, .ref m_scriptLong]) rfl ?_
  refine lv_iconst (v := 1) hx hb dX8_readScript_41 (by decide) ?_
  refine lv_iadd hx hb dX8_readScript_42 ?_
  refine lv_topi (fun z_5 ez_5 => ?_)
  refine va_iast hx hb hK hP hD hS 0 0 rfl rfl (vin rfl) dX8_readScript_43 (fun H locs hP hD hS => ?_)
  have hP : va_P E.1 vwCl [(m_scriptLong, .inl (E.2.1, 5, .inl (upd f_1 (4 : Int32).toNatClampNeg z_5))), (mo, .inr (9, [.int 0, .ref m_tape, .int 0, .int 0, .int 0, .int 0, .int 0, .int 0, .long 0, .int 0, .int 0, .int 0, .int 0, .ref m_readPlace, .ref m_script, .ref m_scriptLong, .int 0, .ref m_now, .ref m_refused, .int 0, .ref m_shareX, .ref m_shareY, .int 0, .int 0, .ref m_askedRow, .int 0, .ref m_kept, .int 0, .long 0, .ref m_aside, .int 0, .int 0, .ref m_spelled, .int 0, .ref m_image, .int 0]))] H := hP
  have hD : va_D A [(m_scriptLong, .inl (E.2.1, 5, .inl (upd f_1 (4 : Int32).toNatClampNeg z_5))), (mo, .inr (9, [.int 0, .ref m_tape, .int 0, .int 0, .int 0, .int 0, .int 0, .int 0, .long 0, .int 0, .int 0, .int 0, .int 0, .ref m_readPlace, .ref m_script, .ref m_scriptLong, .int 0, .ref m_now, .ref m_refused, .int 0, .ref m_shareX, .ref m_shareY, .int 0, .int 0, .ref m_askedRow, .int 0, .ref m_kept, .int 0, .long 0, .ref m_aside, .int 0, .int 0, .ref m_spelled, .int 0, .ref m_image, .int 0]))] := hD
  generalize upd f_1 (4 : Int32).toNatClampNeg z_5 = f_6 at hP hD
  refine lv_aload_n hx hb dX8_readScript_44 rfl (lv_at hl 1 rfl) ?_
  refine va_get (D := E.1) (ci := 9) (v := .int 0) (C := RX8) (T := TX8) (N := 36) hx hb hts i_d_readScript4_X8 hown hK hP 1 rfl rfl 7 (by decide) (hts (.fieldLink RX8 103 "HushWatchModel" "wrong" "I") (List.mem_of_getElem? (i := 2) rfl)) (fun _ h9 => h9) rfl dX8_readScript_45 ?_
  refine lv_iconst (v := -1) hx hb dX8_readScript_48 (by decide) ?_
  refine lv_icmp_ne (tgt := 75) hx hb dX8_readScript_49 (by decide) (fun _ => ?_) (fun q => absurd q (by decide))
  refine lv_iconst (v := 0) hx hb dX8_readScript_75 (by decide) ?_
  refine lv_istore_n (lv' := [(2, .int 0), (0, .ref mo), (1, .int 4)]) hx hb dX8_readScript_76 rfl hl (by decide) rfl (fun ls hl => ?_)
  refine lv_iload_n hx hb dX8_readScript_77 rfl (lv_at hl 0 rfl) ?_
  refine lv_if_eq (tgt := 13) hx hb dX8_readScript_78 (by decide) (fun _ => ?_) (fun q => absurd (by decide) q)
  refine lv_iload_n hx hb dX8_readScript_13 rfl (lv_at hl 0 rfl) ?_
  refine lv_if_eq (tgt := 88) hx hb dX8_readScript_14 (by decide) (fun _ => ?_) (fun q => absurd (by decide) q)
  refine lv_aload_n hx hb dX8_readScript_88 rfl (lv_at hl 1 rfl) ?_
  refine va_get (D := E.1) (ci := 9) (v := .int 0) (C := RX8) (T := TX8) (N := 36) hx hb hts i_d_readScript4_X8 hown hK hP 1 rfl rfl 7 (by decide) (hts (.fieldLink RX8 103 "HushWatchModel" "wrong" "I") (List.mem_of_getElem? (i := 2) rfl)) (fun _ h9 => h9) rfl dX8_readScript_89 ?_
  refine lv_iconst (v := -1) hx hb dX8_readScript_92 (by decide) ?_
  refine lv_icmp_ne (tgt := 107) hx hb dX8_readScript_93 (by decide) (fun _ => ?_) (fun q => absurd q (by decide))
  refine lv_aload_n hx hb dX8_readScript_107 rfl (lv_at hl 1 rfl) ?_
  refine va_get (D := E.1) (ci := 9) (v := .int 0) (C := RX8) (T := TX8) (N := 36) hx hb hts i_d_readScript4_X8 hown hK hP 1 rfl rfl 7 (by decide) (hts (.fieldLink RX8 103 "HushWatchModel" "wrong" "I") (List.mem_of_getElem? (i := 2) rfl)) (fun _ h9 => h9) rfl dX8_readScript_108 ?_
  have hP9 : va_P E.1 vwCl [] H := fun k q h => by simp at h
  have hD9 : va_D A [] := ⟨fun i j p q h => by simp at h, fun k q h => by simp at h⟩
  exact W.iret (v := 0) hx hb hr (fun tt ht hW => ⟨⟨_, (), rfl, rfl, by rw [ht]; exact hP9, hD9⟩, hS.F ht⟩) hS.2.2 dX8_readScript_111

def v_d_fault : List Cond := .code yX8_fault cX8_fault 2 (some .int) :: ([.methodLink RX8 193 yX8_readScript, .instanceMethod yX8_readScript, .selects RX8 yX8_readScript yX8_readScript, .initialized RX8, .methodLink RX8 190 yX8_readWatch, .instanceMethod yX8_readWatch, .selects RX8 yX8_readWatch yX8_readWatch] ++ (v_d_readScript4 ++ (v_d_readWatch ++ ([]))))
theorem gw_d_fault : v_d_fault.all goodWord = true := by decide +kernel
theorem g_d_fault_d_readScript4_193 : GoodIn v_d_fault (wsV RX8 193 RX8 yX8_readScript v_d_readScript4) := goodIn_app (goodIn_of _ (by decide +kernel)) (goodIn_sub (fun _ h => List.mem_cons_of_mem _ (List.mem_append_right _ (List.mem_append_left _ h))) gw_d_readScript4)
theorem g_d_fault_d_readWatch_190 : GoodIn v_d_fault (wsV RX8 190 RX8 yX8_readWatch v_d_readWatch) := goodIn_app (goodIn_of _ (by decide +kernel)) (goodIn_sub (fun _ h => List.mem_cons_of_mem _ (List.mem_append_right _ (List.mem_append_right _ (List.mem_append_left _ h)))) gw_d_readWatch)
set_option maxHeartbeats 4000000 in
set_option maxRecDepth 100000 in
theorem d_fault (l : Launch) (E : EE) (sz : Nat) (mo m_tape m_readPlace m_script m_scriptLong m_now m_refused m_shareX m_shareY m_askedRow m_kept m_aside m_spelled m_image : Nat) (p0 : Int32) : Met l yX8_fault v_d_fault ({ frames := 4, cells := 0, slots := 0, locals := 83 }) (va_Pc [.ref mo, .int p0] (pWZ E sz [(mo, .inr (9, [.int 0, .ref m_tape, .int 0, .int 0, .int 0, .int 0, .int 0, .int 0, .long 0, .int 0, .int 0, .int 0, .int 0, .ref m_readPlace, .ref m_script, .ref m_scriptLong, .int 0, .ref m_now, .ref m_refused, .int 0, .ref m_shareX, .ref m_shareY, .int 0, .int 0, .ref m_askedRow, .int 0, .ref m_kept, .int 0, .long 0, .ref m_aside, .int 0, .int 0, .ref m_spelled, .int 0, .ref m_image, .int 0])), (m_scriptLong, .inl (E.2.1, 5, .inl (fun _ => 0)))])) (va_Qi (fun r (_u : Unit) => r = faultv p0) (fun (_u : Unit) tt => va_P E.1 vwCl [] tt.heap ∧ va_D (va_A [(mo, .inr (9, [.int 0, .ref m_tape, .int 0, .int 0, .int 0, .int 0, .int 0, .int 0, .long 0, .int 0, .int 0, .int 0, .int 0, .ref m_readPlace, .ref m_script, .ref m_scriptLong, .int 0, .ref m_now, .ref m_refused, .int 0, .ref m_shareX, .ref m_shareY, .int 0, .int 0, .ref m_askedRow, .int 0, .ref m_kept, .int 0, .long 0, .ref m_aside, .int 0, .int 0, .ref m_spelled, .int 0, .ref m_image, .int 0])), (m_scriptLong, .inl (E.2.1, 5, .inl (fun _ => 0)))] sz) []) (va_A [(mo, .inr (9, [.int 0, .ref m_tape, .int 0, .int 0, .int 0, .int 0, .int 0, .int 0, .long 0, .int 0, .int 0, .int 0, .int 0, .ref m_readPlace, .ref m_script, .ref m_scriptLong, .int 0, .ref m_now, .ref m_refused, .int 0, .ref m_shareX, .ref m_shareY, .int 0, .int 0, .ref m_askedRow, .int 0, .ref m_kept, .int 0, .long 0, .ref m_aside, .int 0, .int 0, .ref m_spelled, .int 0, .ref m_image, .int 0])), (m_scriptLong, .inl (E.2.1, 5, .inl (fun _ => 0)))] sz)) 0 0 (va_A [(mo, .inr (9, [.int 0, .ref m_tape, .int 0, .int 0, .int 0, .int 0, .int 0, .int 0, .long 0, .int 0, .int 0, .int 0, .int 0, .ref m_readPlace, .ref m_script, .ref m_scriptLong, .int 0, .ref m_now, .ref m_refused, .int 0, .ref m_shareX, .ref m_shareY, .int 0, .int 0, .ref m_askedRow, .int 0, .ref m_kept, .int 0, .long 0, .ref m_aside, .int 0, .int 0, .ref m_spelled, .int 0, .ref m_image, .int 0])), (m_scriptLong, .inl (E.2.1, 5, .inl (fun _ => 0)))] sz) := by
  refine Met.ofW (cc := cX8_fault) (maxL := 2) (ret := (some .int)) (by decide) rfl ?_
  intro p e s m args below meth c s₁ B hml hv
  obtain ⟨rfl, hsz, ⟨hK, hN⟩, hP, hD0, hZ⟩ := hv
  have hx := B.exec
  have hb := B.bytes
  have hr := B.returns
  have hts := atoms_spec (ws := v_d_fault) B.pre
  have hown : s.vm.findClass RX8 = some m.cls := findClass_of_methodNamed B.named
  have hlocks := B.notSynchronized
  subst hsz
  have hD := hD0.self (sz := s.heap.size)
  generalize hAe : va_A [(mo, .inr (9, [.int 0, .ref m_tape, .int 0, .int 0, .int 0, .int 0, .int 0, .int 0, .long 0, .int 0, .int 0, .int 0, .int 0, .ref m_readPlace, .ref m_script, .ref m_scriptLong, .int 0, .ref m_now, .ref m_refused, .int 0, .ref m_shareX, .ref m_shareY, .int 0, .int 0, .ref m_askedRow, .int 0, .ref m_kept, .int 0, .long 0, .ref m_aside, .int 0, .int 0, .ref m_spelled, .int 0, .ref m_image, .int 0])), (m_scriptLong, .inl (E.2.1, 5, .inl (fun _ => 0)))] s.heap.size = A at hD hZ ⊢
  have hA : ∀ q : Nat, s.heap.size ≤ q → A q := fun q h => by rw [← hAe]; exact Or.inr h
  have hS : va_S A s.heap s.heap [] := va_S.rf
  have hP : va_P E.1 vwCl [(mo, .inr (9, [.int 0, .ref m_tape, .int 0, .int 0, .int 0, .int 0, .int 0, .int 0, .long 0, .int 0, .int 0, .int 0, .int 0, .ref m_readPlace, .ref m_script, .ref m_scriptLong, .int 0, .ref m_now, .ref m_refused, .int 0, .ref m_shareX, .ref m_shareY, .int 0, .int 0, .ref m_askedRow, .int 0, .ref m_kept, .int 0, .long 0, .ref m_aside, .int 0, .int 0, .ref m_spelled, .int 0, .ref m_image, .int 0])), (m_scriptLong, .inl (E.2.1, 5, .inl (fun _ => 0)))] s.heap := hP
  have hl := lv_entry ([.ref mo, .int p0]) (n := 2) (Nat.le_of_ble_eq_true rfl)
  rw [lg_entry_eq]
  generalize (lg_sl ([.ref mo, .int p0]) ++ List.replicate (2 - (lg_sl ([.ref mo, .int p0])).length) Slot.unset).toArray = ls at hl ⊢
  have hl : lv_has ls 2 [(0, .ref mo), (1, .int p0)] := hl
  refine lv_iload_n hx hb dX8_fault_0 rfl (lv_at hl 1 rfl) ?_
  refine lv_if_ne (tgt := 11) hx hb dX8_fault_1 (by decide) (fun c_1 => ?_) (fun c_1 => ?_)
  ·
    refine lv_iload_n hx hb dX8_fault_11 rfl (lv_at hl 1 rfl) ?_
    refine lv_iconst (v := 1) hx hb dX8_fault_12 (by decide) ?_
    refine lv_icmp_ne (tgt := 24) hx hb dX8_fault_13 (by decide) (fun c_2 => ?_) (fun c_2 => ?_)
    ·
      refine lv_bipush (v := -2) hx hb dX8_fault_24 (by decide) ?_
      have hP9 : va_P E.1 vwCl [] s.heap := fun k q h => by simp at h
      have hD9 : va_D A [] := ⟨fun i j p q h => by simp at h, fun k q h => by simp at h⟩
      exact W.iret (v := -2) hx hb hr (fun tt ht hW => ⟨⟨_, (), rfl, (by have t0 : (0 : Int32).toInt = 0 := (by decide); have t1 : (1 : Int32).toInt = 1 := (by decide); simp only [Int32.lt_iff_toInt_lt, Int32.le_iff_toInt_le, ge_iff_le, gt_iff_lt, ne_eq, ← Int32.toInt_inj, t0, t1] at c_1 c_2; unfold faultv; rw [if_neg (by omega)]), by rw [ht]; exact hP9, hD9⟩, hS.F ht⟩) hS.2.2 dX8_fault_26
    ·
      refine lv_aload_n hx hb dX8_fault_16 rfl (lv_at hl 0 rfl) ?_
      refine lv_iconst (v := 4) hx hb dX8_fault_17 (by decide) ?_
      have hPc := hP.sub (ws' := [(mo, .inr (9, [.int 0, .ref m_tape, .int 0, .int 0, .int 0, .int 0, .int 0, .int 0, .long 0, .int 0, .int 0, .int 0, .int 0, .ref m_readPlace, .ref m_script, .ref m_scriptLong, .int 0, .ref m_now, .ref m_refused, .int 0, .ref m_shareX, .ref m_shareY, .int 0, .int 0, .ref m_askedRow, .int 0, .ref m_kept, .int 0, .long 0, .ref m_aside, .int 0, .int 0, .ref m_spelled, .int 0, .ref m_image, .int 0])), (m_scriptLong, .inl (E.2.1, 5, .inl (fun _ => 0)))]) [0, 1] rfl
      have hDc := hD.sub (ws' := [(mo, .inr (9, [.int 0, .ref m_tape, .int 0, .int 0, .int 0, .int 0, .int 0, .int 0, .long 0, .int 0, .int 0, .int 0, .int 0, .ref m_readPlace, .ref m_script, .ref m_scriptLong, .int 0, .ref m_now, .ref m_refused, .int 0, .ref m_shareX, .ref m_shareY, .int 0, .int 0, .ref m_askedRow, .int 0, .ref m_kept, .int 0, .long 0, .ref m_aside, .int 0, .int 0, .ref m_spelled, .int 0, .ref m_image, .int 0])), (m_scriptLong, .inl (E.2.1, 5, .inl (fun _ => 0)))]) [0, 1] (by decide) rfl
      have hFc := va_free (wc := [(mo, .inr (9, [.int 0, .ref m_tape, .int 0, .int 0, .int 0, .int 0, .int 0, .int 0, .long 0, .int 0, .int 0, .int 0, .int 0, .ref m_readPlace, .ref m_script, .ref m_scriptLong, .int 0, .ref m_now, .ref m_refused, .int 0, .ref m_shareX, .ref m_shareY, .int 0, .int 0, .ref m_askedRow, .int 0, .ref m_kept, .int 0, .long 0, .ref m_aside, .int 0, .int 0, .ref m_spelled, .int 0, .ref m_image, .int 0])), (m_scriptLong, .inl (E.2.1, 5, .inl (fun _ => 0)))]) hD hS hA [0, 1] rfl
      refine va_calli (va_runV (As := [.int 4]) (rest := []) ⟨hx, hb, hml, hown, hts⟩ (d_readScript4 l E s.heap.size mo m_tape m_readPlace m_script m_scriptLong m_now m_refused m_shareX m_shareY m_askedRow m_kept m_aside m_spelled m_image) (cwV 1 hts g_d_fault_d_readScript4_193 rfl rfl rfl (by decide +kernel) ⟨Nat.le_of_ble_eq_true rfl, Nat.le_of_ble_eq_true rfl⟩) ⟨pWZ.blind, va_recv hK hPc (ci := 9) (q0 := 0) rfl rfl, (pWZ.pre ⟨hK, hN⟩ hPc hDc hZ hS hFc)⟩ rfl rfl hl.1 rfl (lv_room (Nat.le_of_ble_eq_true rfl)) dX8_fault_18 ⟨Nat.le_of_ble_eq_true rfl, Nat.le_of_ble_eq_true rfl⟩) hS (fun q _ h => hFc q h) hFc (fun r_3 u tt H1 locs ht hvm hw hB hz1 hk1 hS => ?_)
      obtain ⟨hP1, hD1⟩ := hB
      rw [ht] at hP1
      obtain ⟨hP, hD⟩ := va_join (wr := []) (w1 := []) hP hD [0, 1] [] rfl rfl (by decide) (by decide) hk1 hFc hP1 hD1
      generalize H1 = H at hP hS ⊢
      have hP : va_P E.1 vwCl [] H := hP
      have hD : va_D A [] := hD
      have hr_3 := hw
      obtain rfl : r_3 = 0 := hr_3
      refine lv_goto (tgt := 26) hx hb dX8_fault_21 (by decide) ?_
      have hP9 : va_P E.1 vwCl [] H := fun k q h => by simp at h
      have hD9 : va_D A [] := ⟨fun i j p q h => by simp at h, fun k q h => by simp at h⟩
      exact W.iret (v := 0) hx hb hr (fun tt ht hW => ⟨⟨_, (), rfl, (by have t0 : (0 : Int32).toInt = 0 := (by decide); have t1 : (1 : Int32).toInt = 1 := (by decide); simp only [Int32.lt_iff_toInt_lt, Int32.le_iff_toInt_le, ge_iff_le, gt_iff_lt, ne_eq, ← Int32.toInt_inj, t0, t1] at c_1 c_2; unfold faultv; rw [if_pos (by omega)]), by rw [ht]; exact hP9, hD9⟩, hS.F ht⟩) hS.2.2 dX8_fault_26
  ·
    refine lv_aload_n hx hb dX8_fault_4 rfl (lv_at hl 0 rfl) ?_
    have hPc := hP.sub (ws' := [(mo, .inr (9, [.int 0, .ref m_tape, .int 0, .int 0, .int 0, .int 0, .int 0, .int 0, .long 0, .int 0, .int 0, .int 0, .int 0, .ref m_readPlace, .ref m_script, .ref m_scriptLong, .int 0, .ref m_now, .ref m_refused, .int 0, .ref m_shareX, .ref m_shareY, .int 0, .int 0, .ref m_askedRow, .int 0, .ref m_kept, .int 0, .long 0, .ref m_aside, .int 0, .int 0, .ref m_spelled, .int 0, .ref m_image, .int 0]))]) [0] rfl
    have hDc := hD.sub (ws' := [(mo, .inr (9, [.int 0, .ref m_tape, .int 0, .int 0, .int 0, .int 0, .int 0, .int 0, .long 0, .int 0, .int 0, .int 0, .int 0, .ref m_readPlace, .ref m_script, .ref m_scriptLong, .int 0, .ref m_now, .ref m_refused, .int 0, .ref m_shareX, .ref m_shareY, .int 0, .int 0, .ref m_askedRow, .int 0, .ref m_kept, .int 0, .long 0, .ref m_aside, .int 0, .int 0, .ref m_spelled, .int 0, .ref m_image, .int 0]))]) [0] (by decide) rfl
    have hFc := va_free (wc := [(mo, .inr (9, [.int 0, .ref m_tape, .int 0, .int 0, .int 0, .int 0, .int 0, .int 0, .long 0, .int 0, .int 0, .int 0, .int 0, .ref m_readPlace, .ref m_script, .ref m_scriptLong, .int 0, .ref m_now, .ref m_refused, .int 0, .ref m_shareX, .ref m_shareY, .int 0, .int 0, .ref m_askedRow, .int 0, .ref m_kept, .int 0, .long 0, .ref m_aside, .int 0, .int 0, .ref m_spelled, .int 0, .ref m_image, .int 0]))]) hD hS hA [0] rfl
    refine va_calli (va_runV (As := []) (rest := []) ⟨hx, hb, hml, hown, hts⟩ (d_readWatch l E s.heap.size mo m_tape m_readPlace m_script m_scriptLong m_now m_refused m_shareX m_shareY m_askedRow m_kept m_aside m_spelled m_image) (cwV 0 hts g_d_fault_d_readWatch_190 rfl rfl rfl (by decide +kernel) ⟨Nat.le_of_ble_eq_true rfl, Nat.le_of_ble_eq_true rfl⟩) ⟨pWZ.blind, va_recv hK hPc (ci := 9) (q0 := 0) rfl rfl, (pWZ.pre ⟨hK, hN⟩ hPc hDc hZ hS hFc)⟩ rfl rfl hl.1 rfl (lv_room (Nat.le_of_ble_eq_true rfl)) dX8_fault_5 ⟨Nat.le_of_ble_eq_true rfl, Nat.le_of_ble_eq_true rfl⟩) hS (fun q _ h => hFc q h) hFc (fun r_4 u tt H1 locs ht hvm hw hB hz1 hk1 hS => ?_)
    obtain ⟨hP1, hD1⟩ := hB
    rw [ht] at hP1
    obtain ⟨hP, hD⟩ := va_join (wr := [(m_scriptLong, .inl (E.2.1, 5, .inl (fun _ => 0)))]) (w1 := []) hP hD [0] [1] rfl rfl (by decide) (by decide) hk1 hFc hP1 hD1
    generalize H1 = H at hP hS ⊢
    have hP : va_P E.1 vwCl [(m_scriptLong, .inl (E.2.1, 5, .inl (fun _ => 0)))] H := hP
    have hD : va_D A [(m_scriptLong, .inl (E.2.1, 5, .inl (fun _ => 0)))] := hD
    have hr_4 := hw
    obtain rfl : r_4 = 0 := hr_4
    refine lv_goto (tgt := 26) hx hb dX8_fault_8 (by decide) ?_
    have hP9 : va_P E.1 vwCl [] H := fun k q h => by simp at h
    have hD9 : va_D A [] := ⟨fun i j p q h => by simp at h, fun k q h => by simp at h⟩
    exact W.iret (v := 0) hx hb hr (fun tt ht hW => ⟨⟨_, (), rfl, (by have t0 : (0 : Int32).toInt = 0 := (by decide); simp only [Int32.lt_iff_toInt_lt, Int32.le_iff_toInt_le, ge_iff_le, gt_iff_lt, ne_eq, ← Int32.toInt_inj, t0] at c_1; unfold faultv; rw [if_pos (by omega)]), by rw [ht]; exact hP9, hD9⟩, hS.F ht⟩) hS.2.2 dX8_fault_26

def v_d_text : List Cond := .code yX8_text cX8_text 2 (some .int) :: ([.fieldLink RX8 215 "HushWatchModel" "scripts" "I", .methodLink RX8 193 yX8_readScript, .instanceMethod yX8_readScript, .selects RX8 yX8_readScript yX8_readScript, .initialized RX8, .methodLink RX8 190 yX8_readWatch, .instanceMethod yX8_readWatch, .selects RX8 yX8_readWatch yX8_readWatch] ++ (wsX80 ++ (v_d_readScript0 ++ (v_d_readWatch ++ ([])))))
theorem gw_d_text : v_d_text.all goodWord = true := by decide +kernel
theorem i_d_text_X8 : ∀ w ∈ wsX80, w ∈ v_d_text := fun _ h => List.mem_cons_of_mem _ (List.mem_append_right _ (List.mem_append_left _ h))
theorem g_d_text_d_readScript0_193 : GoodIn v_d_text (wsV RX8 193 RX8 yX8_readScript v_d_readScript0) := goodIn_app (goodIn_of _ (by decide +kernel)) (goodIn_sub (fun _ h => List.mem_cons_of_mem _ (List.mem_append_right _ (List.mem_append_right _ (List.mem_append_left _ h)))) gw_d_readScript0)
theorem g_d_text_d_readWatch_190 : GoodIn v_d_text (wsV RX8 190 RX8 yX8_readWatch v_d_readWatch) := goodIn_app (goodIn_of _ (by decide +kernel)) (goodIn_sub (fun _ h => List.mem_cons_of_mem _ (List.mem_append_right _ (List.mem_append_right _ (List.mem_append_right _ (List.mem_append_left _ h))))) gw_d_readWatch)
set_option maxHeartbeats 4000000 in
set_option maxRecDepth 100000 in
theorem d_text (l : Launch) (E : EE) (sz : Nat) (mo m_tape m_readPlace m_script m_scriptLong m_now m_refused m_shareX m_shareY m_askedRow m_kept m_aside m_spelled m_image : Nat) (p0 : Int32) : Met l yX8_text v_d_text ({ frames := 4, cells := 0, slots := 0, locals := 83 }) (va_Pc [.ref mo, .int p0] (pWZ E sz [(mo, .inr (9, [.int 0, .ref m_tape, .int 0, .int 0, .int 0, .int 0, .int 0, .int 0, .long 0, .int 0, .int 0, .int 0, .int 0, .ref m_readPlace, .ref m_script, .ref m_scriptLong, .int 0, .ref m_now, .ref m_refused, .int 0, .ref m_shareX, .ref m_shareY, .int 0, .int 0, .ref m_askedRow, .int 0, .ref m_kept, .int 0, .long 0, .ref m_aside, .int 0, .int 0, .ref m_spelled, .int 0, .ref m_image, .int 0])), (m_scriptLong, .inl (E.2.1, 5, .inl (fun _ => 0)))])) (va_Qi (fun r (_u : Unit) => r = -1) (fun (_u : Unit) tt => va_P E.1 vwCl [] tt.heap ∧ va_D (va_A [(mo, .inr (9, [.int 0, .ref m_tape, .int 0, .int 0, .int 0, .int 0, .int 0, .int 0, .long 0, .int 0, .int 0, .int 0, .int 0, .ref m_readPlace, .ref m_script, .ref m_scriptLong, .int 0, .ref m_now, .ref m_refused, .int 0, .ref m_shareX, .ref m_shareY, .int 0, .int 0, .ref m_askedRow, .int 0, .ref m_kept, .int 0, .long 0, .ref m_aside, .int 0, .int 0, .ref m_spelled, .int 0, .ref m_image, .int 0])), (m_scriptLong, .inl (E.2.1, 5, .inl (fun _ => 0)))] sz) []) (va_A [(mo, .inr (9, [.int 0, .ref m_tape, .int 0, .int 0, .int 0, .int 0, .int 0, .int 0, .long 0, .int 0, .int 0, .int 0, .int 0, .ref m_readPlace, .ref m_script, .ref m_scriptLong, .int 0, .ref m_now, .ref m_refused, .int 0, .ref m_shareX, .ref m_shareY, .int 0, .int 0, .ref m_askedRow, .int 0, .ref m_kept, .int 0, .long 0, .ref m_aside, .int 0, .int 0, .ref m_spelled, .int 0, .ref m_image, .int 0])), (m_scriptLong, .inl (E.2.1, 5, .inl (fun _ => 0)))] sz)) 0 0 (va_A [(mo, .inr (9, [.int 0, .ref m_tape, .int 0, .int 0, .int 0, .int 0, .int 0, .int 0, .long 0, .int 0, .int 0, .int 0, .int 0, .ref m_readPlace, .ref m_script, .ref m_scriptLong, .int 0, .ref m_now, .ref m_refused, .int 0, .ref m_shareX, .ref m_shareY, .int 0, .int 0, .ref m_askedRow, .int 0, .ref m_kept, .int 0, .long 0, .ref m_aside, .int 0, .int 0, .ref m_spelled, .int 0, .ref m_image, .int 0])), (m_scriptLong, .inl (E.2.1, 5, .inl (fun _ => 0)))] sz) := by
  refine Met.ofW (cc := cX8_text) (maxL := 2) (ret := (some .int)) (by decide) rfl ?_
  intro p e s m args below meth c s₁ B hml hv
  obtain ⟨rfl, hsz, ⟨hK, hN⟩, hP, hD0, hZ⟩ := hv
  have hx := B.exec
  have hb := B.bytes
  have hr := B.returns
  have hts := atoms_spec (ws := v_d_text) B.pre
  have hown : s.vm.findClass RX8 = some m.cls := findClass_of_methodNamed B.named
  have hlocks := B.notSynchronized
  subst hsz
  have hD := hD0.self (sz := s.heap.size)
  generalize hAe : va_A [(mo, .inr (9, [.int 0, .ref m_tape, .int 0, .int 0, .int 0, .int 0, .int 0, .int 0, .long 0, .int 0, .int 0, .int 0, .int 0, .ref m_readPlace, .ref m_script, .ref m_scriptLong, .int 0, .ref m_now, .ref m_refused, .int 0, .ref m_shareX, .ref m_shareY, .int 0, .int 0, .ref m_askedRow, .int 0, .ref m_kept, .int 0, .long 0, .ref m_aside, .int 0, .int 0, .ref m_spelled, .int 0, .ref m_image, .int 0])), (m_scriptLong, .inl (E.2.1, 5, .inl (fun _ => 0)))] s.heap.size = A at hD hZ ⊢
  have hA : ∀ q : Nat, s.heap.size ≤ q → A q := fun q h => by rw [← hAe]; exact Or.inr h
  have hS : va_S A s.heap s.heap [] := va_S.rf
  have hP : va_P E.1 vwCl [(mo, .inr (9, [.int 0, .ref m_tape, .int 0, .int 0, .int 0, .int 0, .int 0, .int 0, .long 0, .int 0, .int 0, .int 0, .int 0, .ref m_readPlace, .ref m_script, .ref m_scriptLong, .int 0, .ref m_now, .ref m_refused, .int 0, .ref m_shareX, .ref m_shareY, .int 0, .int 0, .ref m_askedRow, .int 0, .ref m_kept, .int 0, .long 0, .ref m_aside, .int 0, .int 0, .ref m_spelled, .int 0, .ref m_image, .int 0])), (m_scriptLong, .inl (E.2.1, 5, .inl (fun _ => 0)))] s.heap := hP
  have hl := lv_entry ([.ref mo, .int p0]) (n := 2) (Nat.le_of_ble_eq_true rfl)
  rw [lg_entry_eq]
  generalize (lg_sl ([.ref mo, .int p0]) ++ List.replicate (2 - (lg_sl ([.ref mo, .int p0])).length) Slot.unset).toArray = ls at hl ⊢
  have hl : lv_has ls 2 [(0, .ref mo), (1, .int p0)] := hl
  refine lv_iload_n hx hb dX8_text_0 rfl (lv_at hl 1 rfl) ?_
  refine lv_if_ne (tgt := 22) hx hb dX8_text_1 (by decide) (fun c_1 => ?_) (fun c_1 => ?_)
  ·
    refine lv_iload_n hx hb dX8_text_22 rfl (lv_at hl 1 rfl) ?_
    refine lv_iconst (v := 1) hx hb dX8_text_23 (by decide) ?_
    refine lv_icmp_ne (tgt := 69) hx hb dX8_text_24 (by decide) (fun c_2 => ?_) (fun c_2 => ?_)
    ·
      refine lv_iconst (v := -1) hx hb dX8_text_69 (by decide) ?_
      have hP9 : va_P E.1 vwCl [] s.heap := fun k q h => by simp at h
      have hD9 : va_D A [] := ⟨fun i j p q h => by simp at h, fun k q h => by simp at h⟩
      exact W.iret (v := -1) hx hb hr (fun tt ht hW => ⟨⟨_, (), rfl, rfl, by rw [ht]; exact hP9, hD9⟩, hS.F ht⟩) hS.2.2 dX8_text_70
    ·
      refine lv_aload_n hx hb dX8_text_27 rfl (lv_at hl 0 rfl) ?_
      refine va_get (D := E.1) (ci := 9) (v := .int 0) (C := RX8) (T := TX8) (N := 36) hx hb hts i_d_text_X8 hown hK hP 0 rfl rfl 16 (by decide) (hts (.fieldLink RX8 215 "HushWatchModel" "scripts" "I") (List.mem_of_getElem? (i := 1) rfl)) (fun _ h9 => h9) rfl dX8_text_28 ?_
      refine lv_iconst (v := 4) hx hb dX8_text_31 (by decide) ?_
      refine lv_icmp_ge (tgt := 69) hx hb dX8_text_32 (by decide) (fun q => absurd q (by decide)) (fun _ => ?_)
      refine lv_aload_n hx hb dX8_text_35 rfl (lv_at hl 0 rfl) ?_
      refine lv_aload_n hx hb dX8_text_36 rfl (lv_at hl 0 rfl) ?_
      refine va_get (D := E.1) (ci := 9) (v := .int 0) (C := RX8) (T := TX8) (N := 36) hx hb hts i_d_text_X8 hown hK hP 0 rfl rfl 16 (by decide) (hts (.fieldLink RX8 215 "HushWatchModel" "scripts" "I") (List.mem_of_getElem? (i := 1) rfl)) (fun _ h9 => h9) rfl dX8_text_37 ?_
      have hPc := hP.sub (ws' := [(mo, .inr (9, [.int 0, .ref m_tape, .int 0, .int 0, .int 0, .int 0, .int 0, .int 0, .long 0, .int 0, .int 0, .int 0, .int 0, .ref m_readPlace, .ref m_script, .ref m_scriptLong, .int 0, .ref m_now, .ref m_refused, .int 0, .ref m_shareX, .ref m_shareY, .int 0, .int 0, .ref m_askedRow, .int 0, .ref m_kept, .int 0, .long 0, .ref m_aside, .int 0, .int 0, .ref m_spelled, .int 0, .ref m_image, .int 0])), (m_scriptLong, .inl (E.2.1, 5, .inl (fun _ => 0)))]) [0, 1] rfl
      have hDc := hD.sub (ws' := [(mo, .inr (9, [.int 0, .ref m_tape, .int 0, .int 0, .int 0, .int 0, .int 0, .int 0, .long 0, .int 0, .int 0, .int 0, .int 0, .ref m_readPlace, .ref m_script, .ref m_scriptLong, .int 0, .ref m_now, .ref m_refused, .int 0, .ref m_shareX, .ref m_shareY, .int 0, .int 0, .ref m_askedRow, .int 0, .ref m_kept, .int 0, .long 0, .ref m_aside, .int 0, .int 0, .ref m_spelled, .int 0, .ref m_image, .int 0])), (m_scriptLong, .inl (E.2.1, 5, .inl (fun _ => 0)))]) [0, 1] (by decide) rfl
      have hFc := va_free (wc := [(mo, .inr (9, [.int 0, .ref m_tape, .int 0, .int 0, .int 0, .int 0, .int 0, .int 0, .long 0, .int 0, .int 0, .int 0, .int 0, .ref m_readPlace, .ref m_script, .ref m_scriptLong, .int 0, .ref m_now, .ref m_refused, .int 0, .ref m_shareX, .ref m_shareY, .int 0, .int 0, .ref m_askedRow, .int 0, .ref m_kept, .int 0, .long 0, .ref m_aside, .int 0, .int 0, .ref m_spelled, .int 0, .ref m_image, .int 0])), (m_scriptLong, .inl (E.2.1, 5, .inl (fun _ => 0)))]) hD hS hA [0, 1] rfl
      refine va_calli (va_runV (As := [.int 0]) (rest := []) ⟨hx, hb, hml, hown, hts⟩ (d_readScript0 l E s.heap.size mo m_tape m_readPlace m_script m_scriptLong m_now m_refused m_shareX m_shareY m_askedRow m_kept m_aside m_spelled m_image) (cwV 1 hts g_d_text_d_readScript0_193 rfl rfl rfl (by decide +kernel) ⟨Nat.le_of_ble_eq_true rfl, Nat.le_of_ble_eq_true rfl⟩) ⟨pWZ.blind, va_recv hK hPc (ci := 9) (q0 := 0) rfl rfl, (pWZ.pre ⟨hK, hN⟩ hPc hDc hZ hS hFc)⟩ rfl rfl hl.1 rfl (lv_room (Nat.le_of_ble_eq_true rfl)) dX8_text_40 ⟨Nat.le_of_ble_eq_true rfl, Nat.le_of_ble_eq_true rfl⟩) hS (fun q _ h => hFc q h) hFc (fun r_3 u tt H1 locs ht hvm hw hB hz1 hk1 hS => ?_)
      obtain ⟨hP1, hD1⟩ := hB
      rw [ht] at hP1
      obtain ⟨hP, hD⟩ := va_join (wr := []) (w1 := []) hP hD [0, 1] [] rfl rfl (by decide) (by decide) hk1 hFc hP1 hD1
      generalize H1 = H at hP hS ⊢
      have hP : va_P E.1 vwCl [] H := hP
      have hD : va_D A [] := hD
      have hr_3 := hw
      obtain rfl : r_3 = 0 := hr_3
      refine lv_iconst (v := -1) hx hb dX8_text_43 (by decide) ?_
      refine lv_icmp_ne (tgt := 69) hx hb dX8_text_44 (by decide) (fun _ => ?_) (fun q => absurd q (by decide))
      refine lv_iconst (v := -1) hx hb dX8_text_69 (by decide) ?_
      have hP9 : va_P E.1 vwCl [] H := fun k q h => by simp at h
      have hD9 : va_D A [] := ⟨fun i j p q h => by simp at h, fun k q h => by simp at h⟩
      exact W.iret (v := -1) hx hb hr (fun tt ht hW => ⟨⟨_, (), rfl, rfl, by rw [ht]; exact hP9, hD9⟩, hS.F ht⟩) hS.2.2 dX8_text_70
  ·
    refine lv_aload_n hx hb dX8_text_4 rfl (lv_at hl 0 rfl) ?_
    have hPc := hP.sub (ws' := [(mo, .inr (9, [.int 0, .ref m_tape, .int 0, .int 0, .int 0, .int 0, .int 0, .int 0, .long 0, .int 0, .int 0, .int 0, .int 0, .ref m_readPlace, .ref m_script, .ref m_scriptLong, .int 0, .ref m_now, .ref m_refused, .int 0, .ref m_shareX, .ref m_shareY, .int 0, .int 0, .ref m_askedRow, .int 0, .ref m_kept, .int 0, .long 0, .ref m_aside, .int 0, .int 0, .ref m_spelled, .int 0, .ref m_image, .int 0]))]) [0] rfl
    have hDc := hD.sub (ws' := [(mo, .inr (9, [.int 0, .ref m_tape, .int 0, .int 0, .int 0, .int 0, .int 0, .int 0, .long 0, .int 0, .int 0, .int 0, .int 0, .ref m_readPlace, .ref m_script, .ref m_scriptLong, .int 0, .ref m_now, .ref m_refused, .int 0, .ref m_shareX, .ref m_shareY, .int 0, .int 0, .ref m_askedRow, .int 0, .ref m_kept, .int 0, .long 0, .ref m_aside, .int 0, .int 0, .ref m_spelled, .int 0, .ref m_image, .int 0]))]) [0] (by decide) rfl
    have hFc := va_free (wc := [(mo, .inr (9, [.int 0, .ref m_tape, .int 0, .int 0, .int 0, .int 0, .int 0, .int 0, .long 0, .int 0, .int 0, .int 0, .int 0, .ref m_readPlace, .ref m_script, .ref m_scriptLong, .int 0, .ref m_now, .ref m_refused, .int 0, .ref m_shareX, .ref m_shareY, .int 0, .int 0, .ref m_askedRow, .int 0, .ref m_kept, .int 0, .long 0, .ref m_aside, .int 0, .int 0, .ref m_spelled, .int 0, .ref m_image, .int 0]))]) hD hS hA [0] rfl
    refine va_calli (va_runV (As := []) (rest := []) ⟨hx, hb, hml, hown, hts⟩ (d_readWatch l E s.heap.size mo m_tape m_readPlace m_script m_scriptLong m_now m_refused m_shareX m_shareY m_askedRow m_kept m_aside m_spelled m_image) (cwV 0 hts g_d_text_d_readWatch_190 rfl rfl rfl (by decide +kernel) ⟨Nat.le_of_ble_eq_true rfl, Nat.le_of_ble_eq_true rfl⟩) ⟨pWZ.blind, va_recv hK hPc (ci := 9) (q0 := 0) rfl rfl, (pWZ.pre ⟨hK, hN⟩ hPc hDc hZ hS hFc)⟩ rfl rfl hl.1 rfl (lv_room (Nat.le_of_ble_eq_true rfl)) dX8_text_5 ⟨Nat.le_of_ble_eq_true rfl, Nat.le_of_ble_eq_true rfl⟩) hS (fun q _ h => hFc q h) hFc (fun r_4 u tt H1 locs ht hvm hw hB hz1 hk1 hS => ?_)
    obtain ⟨hP1, hD1⟩ := hB
    rw [ht] at hP1
    obtain ⟨hP, hD⟩ := va_join (wr := [(m_scriptLong, .inl (E.2.1, 5, .inl (fun _ => 0)))]) (w1 := []) hP hD [0] [1] rfl rfl (by decide) (by decide) hk1 hFc hP1 hD1
    generalize H1 = H at hP hS ⊢
    have hP : va_P E.1 vwCl [(m_scriptLong, .inl (E.2.1, 5, .inl (fun _ => 0)))] H := hP
    have hD : va_D A [(m_scriptLong, .inl (E.2.1, 5, .inl (fun _ => 0)))] := hD
    have hr_4 := hw
    obtain rfl : r_4 = 0 := hr_4
    refine lv_iconst (v := -1) hx hb dX8_text_8 (by decide) ?_
    refine lv_icmp_ne (tgt := 22) hx hb dX8_text_9 (by decide) (fun _ => ?_) (fun q => absurd q (by decide))
    refine lv_iload_n hx hb dX8_text_22 rfl (lv_at hl 1 rfl) ?_
    refine lv_iconst (v := 1) hx hb dX8_text_23 (by decide) ?_
    refine lv_icmp_ne (tgt := 69) hx hb dX8_text_24 (by decide) (fun c_5 => ?_) (fun c_5 => ?_)
    ·
      refine lv_iconst (v := -1) hx hb dX8_text_69 (by decide) ?_
      have hP9 : va_P E.1 vwCl [] H := fun k q h => by simp at h
      have hD9 : va_D A [] := ⟨fun i j p q h => by simp at h, fun k q h => by simp at h⟩
      exact W.iret (v := -1) hx hb hr (fun tt ht hW => ⟨⟨_, (), rfl, rfl, by rw [ht]; exact hP9, hD9⟩, hS.F ht⟩) hS.2.2 dX8_text_70
    ·
      exact absurd trivial (by exfalso; have t0 : (0 : Int32).toInt = 0 := (by decide); have t1 : (1 : Int32).toInt = 1 := (by decide); simp only [Int32.lt_iff_toInt_lt, Int32.le_iff_toInt_le, ge_iff_le, gt_iff_lt, ne_eq, ← Int32.toInt_inj, t0, t1] at c_1 c_5; omega)
