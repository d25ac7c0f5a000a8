theorem dX5_total_4 : decode cX5_total 4 = .ok (.iload_n 3, 1) := by decide +kernel
theorem dX5_total_5 : decode cX5_total 5 = .ok (.aload_n 0, 1) := by decide +kernel
theorem dX5_total_6 : decode cX5_total 6 = .ok (.invokevirtual 45, 3) := by decide +kernel
theorem dX5_total_9 : decode cX5_total 9 = .ok (.if_icmp .ge 18, 3) := by decide +kernel
theorem dX5_total_12 : decode cX5_total 12 = .ok (.iload_n 2, 1) := by decide +kernel
theorem dX5_total_13 : decode cX5_total 13 = .ok (.aload_n 0, 1) := by decide +kernel
theorem dX5_total_14 : decode cX5_total 14 = .ok (.iload_n 3, 1) := by decide +kernel
theorem dX5_total_15 : decode cX5_total 15 = .ok (.iload_n 1, 1) := by decide +kernel
theorem dX5_total_16 : decode cX5_total 16 = .ok (.invokevirtual 69, 3) := by decide +kernel
theorem dX5_total_19 : decode cX5_total 19 = .ok (.iadd, 1) := by decide +kernel
theorem dX5_total_20 : decode cX5_total 20 = .ok (.istore_n 2, 1) := by decide +kernel
theorem dX5_total_21 : decode cX5_total 21 = .ok (.iinc 3 1, 3) := by decide +kernel
theorem dX5_total_24 : decode cX5_total 24 = .ok (.goto (-20), 3) := by decide +kernel
theorem dX5_total_0 : decode cX5_total 0 = .ok (.iconst 0, 1) := by decide +kernel
theorem dX5_total_1 : decode cX5_total 1 = .ok (.istore_n 2, 1) := by decide +kernel
theorem dX5_total_2 : decode cX5_total 2 = .ok (.iconst 0, 1) := by decide +kernel
theorem dX5_total_3 : decode cX5_total 3 = .ok (.istore_n 3, 1) := by decide +kernel
theorem dX5_total_27 : decode cX5_total 27 = .ok (.iload_n 2, 1) := by decide +kernel
theorem dX5_total_28 : decode cX5_total 28 = .ok (.ireturn, 1) := by decide +kernel
theorem dX5_point_0 : decode cX5_point 0 = .ok (.iload_n 2, 1) := by decide +kernel
theorem dX5_point_19 : decode cX5_point 19 = .ok (.aload_n 0, 1) := by decide +kernel
theorem dX5_point_20 : decode cX5_point 20 = .ok (.getfield 11, 3) := by decide +kernel
theorem dX5_point_23 : decode cX5_point 23 = .ok (.iconst 3, 1) := by decide +kernel
theorem dX5_point_24 : decode cX5_point 24 = .ok (.iaload, 1) := by decide +kernel
theorem dX5_point_25 : decode cX5_point 25 = .ok (.aload_n 0, 1) := by decide +kernel
theorem dX5_point_26 : decode cX5_point 26 = .ok (.iload_n 1, 1) := by decide +kernel
theorem dX5_point_27 : decode cX5_point 27 = .ok (.iload_n 2, 1) := by decide +kernel
theorem dX5_point_28 : decode cX5_point 28 = .ok (.invokevirtual 72, 3) := by decide +kernel
theorem dX5_point_31 : decode cX5_point 31 = .ok (.imul, 1) := by decide +kernel
theorem dX5_point_32 : decode cX5_point 32 = .ok (.iadd, 1) := by decide +kernel
theorem dX5_point_33 : decode cX5_point 33 = .ok (.ireturn, 1) := by decide +kernel
theorem dX5_point_1 : decode cX5_point 1 = .ok (.ifCond .ne 12, 3) := by decide +kernel
theorem dX5_point_13 : decode cX5_point 13 = .ok (.aload_n 0, 1) := by decide +kernel
theorem dX5_point_14 : decode cX5_point 14 = .ok (.getfield 11, 3) := by decide +kernel
theorem dX5_point_17 : decode cX5_point 17 = .ok (.iconst 5, 1) := by decide +kernel
theorem dX5_point_18 : decode cX5_point 18 = .ok (.iaload, 1) := by decide +kernel
theorem dX5_point_4 : decode cX5_point 4 = .ok (.aload_n 0, 1) := by decide +kernel
theorem dX5_point_5 : decode cX5_point 5 = .ok (.getfield 11, 3) := by decide +kernel
theorem dX5_point_8 : decode cX5_point 8 = .ok (.iconst 4, 1) := by decide +kernel
theorem dX5_point_9 : decode cX5_point 9 = .ok (.iaload, 1) := by decide +kernel
theorem dX5_point_10 : decode cX5_point 10 = .ok (.goto 9, 3) := by decide +kernel
theorem dX5_allows_0 : decode cX5_allows 0 = .ok (.aload_n 0, 1) := by decide +kernel
theorem dX5_allows_1 : decode cX5_allows 1 = .ok (.lload_n 1, 1) := by decide +kernel
theorem dX5_allows_2 : decode cX5_allows 2 = .ok (.lload_n 3, 1) := by decide +kernel
theorem dX5_allows_3 : decode cX5_allows 3 = .ok (.invokevirtual 75, 3) := by decide +kernel
theorem dX5_allows_6 : decode cX5_allows 6 = .ok (.aload_n 0, 1) := by decide +kernel
theorem dX5_allows_7 : decode cX5_allows 7 = .ok (.getfield 11, 3) := by decide +kernel
theorem dX5_allows_10 : decode cX5_allows 10 = .ok (.iconst 1, 1) := by decide +kernel
theorem dX5_allows_11 : decode cX5_allows 11 = .ok (.iaload, 1) := by decide +kernel
theorem dX5_allows_12 : decode cX5_allows 12 = .ok (.i2l, 1) := by decide +kernel
theorem dX5_allows_13 : decode cX5_allows 13 = .ok (.lcmp, 1) := by decide +kernel
theorem dX5_allows_22 : decode cX5_allows 22 = .ok (.ireturn, 1) := by decide +kernel
theorem dX5_allows_14 : decode cX5_allows 14 = .ok (.ifCond .ge 7, 3) := by decide +kernel
theorem dX5_allows_21 : decode cX5_allows 21 = .ok (.iconst 0, 1) := by decide +kernel
theorem dX5_allows_17 : decode cX5_allows 17 = .ok (.iconst 1, 1) := by decide +kernel
theorem dX5_allows_18 : decode cX5_allows 18 = .ok (.goto 4, 3) := by decide +kernel
theorem dX5_isFrozen_0 : decode cX5_isFrozen 0 = .ok (.aload_n 0, 1) := by decide +kernel
theorem dX5_isFrozen_1 : decode cX5_isFrozen 1 = .ok (.iload_n 1, 1) := by decide +kernel
theorem dX5_isFrozen_2 : decode cX5_isFrozen 2 = .ok (.invokevirtual 79, 3) := by decide +kernel
theorem dX5_isFrozen_27 : decode cX5_isFrozen 27 = .ok (.ireturn, 1) := by decide +kernel
theorem dX5_isFrozen_5 : decode cX5_isFrozen 5 = .ok (.ifCond .eq 21, 3) := by decide +kernel
theorem dX5_isFrozen_26 : decode cX5_isFrozen 26 = .ok (.iconst 0, 1) := by decide +kernel
theorem dX5_isFrozen_8 : decode cX5_isFrozen 8 = .ok (.aload_n 0, 1) := by decide +kernel
theorem dX5_isFrozen_9 : decode cX5_isFrozen 9 = .ok (.getfield 11, 3) := by decide +kernel
theorem dX5_isFrozen_12 : decode cX5_isFrozen 12 = .ok (.bipush 7, 2) := by decide +kernel
theorem dX5_isFrozen_14 : decode cX5_isFrozen 14 = .ok (.iaload, 1) := by decide +kernel
theorem dX5_isFrozen_15 : decode cX5_isFrozen 15 = .ok (.iload_n 1, 1) := by decide +kernel
theorem dX5_isFrozen_16 : decode cX5_isFrozen 16 = .ok (.ishr, 1) := by decide +kernel
theorem dX5_isFrozen_17 : decode cX5_isFrozen 17 = .ok (.iconst 1, 1) := by decide +kernel
theorem dX5_isFrozen_18 : decode cX5_isFrozen 18 = .ok (.iand, 1) := by decide +kernel
theorem dX5_isFrozen_19 : decode cX5_isFrozen 19 = .ok (.ifCond .eq 7, 3) := by decide +kernel
theorem dX5_isFrozen_22 : decode cX5_isFrozen 22 = .ok (.iconst 1, 1) := by decide +kernel
theorem dX5_isFrozen_23 : decode cX5_isFrozen 23 = .ok (.goto 4, 3) := by decide +kernel
theorem dX5_isQuietDrift_0 : decode cX5_isQuietDrift 0 = .ok (.aload_n 0, 1) := by decide +kernel
theorem dX5_isQuietDrift_1 : decode cX5_isQuietDrift 1 = .ok (.invokevirtual 83, 3) := by decide +kernel
theorem dX5_isQuietDrift_4 : decode cX5_isQuietDrift 4 = .ok (.ifCond .eq 17, 3) := by decide +kernel
theorem dX5_isQuietDrift_21 : decode cX5_isQuietDrift 21 = .ok (.aload_n 0, 1) := by decide +kernel
theorem dX5_isQuietDrift_22 : decode cX5_isQuietDrift 22 = .ok (.aload_n 0, 1) := by decide +kernel
theorem dX5_isQuietDrift_23 : decode cX5_isQuietDrift 23 = .ok (.getfield 11, 3) := by decide +kernel
theorem dX5_isQuietDrift_26 : decode cX5_isQuietDrift 26 = .ok (.iconst 4, 1) := by decide +kernel
theorem dX5_isQuietDrift_27 : decode cX5_isQuietDrift 27 = .ok (.iaload, 1) := by decide +kernel
theorem dX5_isQuietDrift_28 : decode cX5_isQuietDrift 28 = .ok (.aload_n 0, 1) := by decide +kernel
theorem dX5_isQuietDrift_29 : decode cX5_isQuietDrift 29 = .ok (.getfield 11, 3) := by decide +kernel
theorem dX5_isQuietDrift_32 : decode cX5_isQuietDrift 32 = .ok (.iconst 3, 1) := by decide +kernel
theorem dX5_isQuietDrift_33 : decode cX5_isQuietDrift 33 = .ok (.iaload, 1) := by decide +kernel
theorem dX5_isQuietDrift_34 : decode cX5_isQuietDrift 34 = .ok (.iload_n 1, 1) := by decide +kernel
theorem dX5_isQuietDrift_35 : decode cX5_isQuietDrift 35 = .ok (.imul, 1) := by decide +kernel
theorem dX5_isQuietDrift_36 : decode cX5_isQuietDrift 36 = .ok (.iadd, 1) := by decide +kernel
theorem dX5_isQuietDrift_37 : decode cX5_isQuietDrift 37 = .ok (.i2l, 1) := by decide +kernel
theorem dX5_isQuietDrift_38 : decode cX5_isQuietDrift 38 = .ok (.aload_n 0, 1) := by decide +kernel
theorem dX5_isQuietDrift_39 : decode cX5_isQuietDrift 39 = .ok (.getfield 11, 3) := by decide +kernel
theorem dX5_isQuietDrift_42 : decode cX5_isQuietDrift 42 = .ok (.iconst 5, 1) := by decide +kernel
theorem dX5_isQuietDrift_43 : decode cX5_isQuietDrift 43 = .ok (.iaload, 1) := by decide +kernel
theorem dX5_isQuietDrift_44 : decode cX5_isQuietDrift 44 = .ok (.aload_n 0, 1) := by decide +kernel
theorem dX5_isQuietDrift_45 : decode cX5_isQuietDrift 45 = .ok (.getfield 11, 3) := by decide +kernel
theorem dX5_isQuietDrift_48 : decode cX5_isQuietDrift 48 = .ok (.iconst 3, 1) := by decide +kernel
theorem dX5_isQuietDrift_49 : decode cX5_isQuietDrift 49 = .ok (.iaload, 1) := by decide +kernel
theorem dX5_isQuietDrift_50 : decode cX5_isQuietDrift 50 = .ok (.iload_n 2, 1) := by decide +kernel
theorem dX5_isQuietDrift_51 : decode cX5_isQuietDrift 51 = .ok (.imul, 1) := by decide +kernel
theorem dX5_isQuietDrift_52 : decode cX5_isQuietDrift 52 = .ok (.iadd, 1) := by decide +kernel
theorem dX5_isQuietDrift_53 : decode cX5_isQuietDrift 53 = .ok (.i2l, 1) := by decide +kernel
theorem dX5_isQuietDrift_54 : decode cX5_isQuietDrift 54 = .ok (.invokevirtual 75, 3) := by decide +kernel
theorem dX5_isQuietDrift_57 : decode cX5_isQuietDrift 57 = .ok (.aload_n 0, 1) := by decide +kernel
theorem dX5_isQuietDrift_58 : decode cX5_isQuietDrift 58 = .ok (.getfield 11, 3) := by decide +kernel
theorem dX5_isQuietDrift_61 : decode cX5_isQuietDrift 61 = .ok (.iconst 1, 1) := by decide +kernel
theorem dX5_isQuietDrift_62 : decode cX5_isQuietDrift 62 = .ok (.iaload, 1) := by decide +kernel
theorem dX5_isQuietDrift_63 : decode cX5_isQuietDrift 63 = .ok (.i2l, 1) := by decide +kernel
theorem dX5_isQuietDrift_64 : decode cX5_isQuietDrift 64 = .ok (.lcmp, 1) := by decide +kernel
theorem dX5_isQuietDrift_73 : decode cX5_isQuietDrift 73 = .ok (.ireturn, 1) := by decide +kernel
theorem dX5_isQuietDrift_65 : decode cX5_isQuietDrift 65 = .ok (.ifCond .ge 7, 3) := by decide +kernel
theorem dX5_isQuietDrift_72 : decode cX5_isQuietDrift 72 = .ok (.iconst 0, 1) := by decide +kernel
theorem dX5_isQuietDrift_68 : decode cX5_isQuietDrift 68 = .ok (.iconst 1, 1) := by decide +kernel
theorem dX5_isQuietDrift_69 : decode cX5_isQuietDrift 69 = .ok (.goto 4, 3) := by decide +kernel
theorem dX5_isQuietDrift_7 : decode cX5_isQuietDrift 7 = .ok (.iload_n 1, 1) := by decide +kernel
theorem dX5_isQuietDrift_20 : decode cX5_isQuietDrift 20 = .ok (.ireturn, 1) := by decide +kernel
theorem dX5_isQuietDrift_8 : decode cX5_isQuietDrift 8 = .ok (.ifCond .ne 11, 3) := by decide +kernel
theorem dX5_isQuietDrift_19 : decode cX5_isQuietDrift 19 = .ok (.iconst 0, 1) := by decide +kernel
theorem dX5_isQuietDrift_11 : decode cX5_isQuietDrift 11 = .ok (.iload_n 2, 1) := by decide +kernel
theorem dX5_isQuietDrift_12 : decode cX5_isQuietDrift 12 = .ok (.ifCond .ne 7, 3) := by decide +kernel
theorem dX5_isQuietDrift_15 : decode cX5_isQuietDrift 15 = .ok (.iconst 1, 1) := by decide +kernel
theorem dX5_isQuietDrift_16 : decode cX5_isQuietDrift 16 = .ok (.goto 4, 3) := by decide +kernel
theorem dX5_isQuietWith_0 : decode cX5_isQuietWith 0 = .ok (.aload_n 0, 1) := by decide +kernel
theorem dX5_isQuietWith_1 : decode cX5_isQuietWith 1 = .ok (.aload_n 0, 1) := by decide +kernel
theorem dX5_isQuietWith_2 : decode cX5_isQuietWith 2 = .ok (.iload_n 1, 1) := by decide +kernel
theorem dX5_isQuietWith_3 : decode cX5_isQuietWith 3 = .ok (.iconst 0, 1) := by decide +kernel
theorem dX5_isQuietWith_4 : decode cX5_isQuietWith 4 = .ok (.invokevirtual 72, 3) := by decide +kernel
theorem dX5_isQuietWith_7 : decode cX5_isQuietWith 7 = .ok (.iload_n 2, 1) := by decide +kernel
theorem dX5_isQuietWith_8 : decode cX5_isQuietWith 8 = .ok (.iadd, 1) := by decide +kernel
theorem dX5_isQuietWith_9 : decode cX5_isQuietWith 9 = .ok (.aload_n 0, 1) := by decide +kernel
theorem dX5_isQuietWith_10 : decode cX5_isQuietWith 10 = .ok (.iload_n 1, 1) := by decide +kernel
theorem dX5_isQuietWith_11 : decode cX5_isQuietWith 11 = .ok (.iconst 1, 1) := by decide +kernel
theorem dX5_isQuietWith_12 : decode cX5_isQuietWith 12 = .ok (.invokevirtual 72, 3) := by decide +kernel
theorem dX5_isQuietWith_15 : decode cX5_isQuietWith 15 = .ok (.iload_n 3, 1) := by decide +kernel
theorem dX5_isQuietWith_16 : decode cX5_isQuietWith 16 = .ok (.iadd, 1) := by decide +kernel
theorem dX5_isQuietWith_17 : decode cX5_isQuietWith 17 = .ok (.invokevirtual 87, 3) := by decide +kernel
theorem dX5_isQuietWith_20 : decode cX5_isQuietWith 20 = .ok (.ireturn, 1) := by decide +kernel
theorem dX5_isQuiet_0 : decode cX5_isQuiet 0 = .ok (.aload_n 0, 1) := by decide +kernel
theorem dX5_isQuiet_1 : decode cX5_isQuiet 1 = .ok (.aload_n 0, 1) := by decide +kernel
theorem dX5_isQuiet_2 : decode cX5_isQuiet 2 = .ok (.iload_n 1, 1) := by decide +kernel
theorem dX5_isQuiet_3 : decode cX5_isQuiet 3 = .ok (.iconst 0, 1) := by decide +kernel
theorem dX5_isQuiet_4 : decode cX5_isQuiet 4 = .ok (.invokevirtual 72, 3) := by decide +kernel
theorem dX5_isQuiet_7 : decode cX5_isQuiet 7 = .ok (.aload_n 0, 1) := by decide +kernel
theorem dX5_isQuiet_8 : decode cX5_isQuiet 8 = .ok (.iload_n 1, 1) := by decide +kernel
theorem dX5_isQuiet_9 : decode cX5_isQuiet 9 = .ok (.iconst 1, 1) := by decide +kernel
theorem dX5_isQuiet_10 : decode cX5_isQuiet 10 = .ok (.invokevirtual 72, 3) := by decide +kernel
theorem dX5_isQuiet_13 : decode cX5_isQuiet 13 = .ok (.invokevirtual 87, 3) := by decide +kernel
theorem dX5_isQuiet_16 : decode cX5_isQuiet 16 = .ok (.ireturn, 1) := by decide +kernel
theorem dX5_pointValue_0 : decode cX5_pointValue 0 = .ok (.aload_n 0, 1) := by decide +kernel
theorem dX5_pointValue_1 : decode cX5_pointValue 1 = .ok (.aload_n 0, 1) := by decide +kernel
theorem dX5_pointValue_2 : decode cX5_pointValue 2 = .ok (.iload_n 1, 1) := by decide +kernel
theorem dX5_pointValue_3 : decode cX5_pointValue 3 = .ok (.iconst 0, 1) := by decide +kernel
theorem dX5_pointValue_4 : decode cX5_pointValue 4 = .ok (.invokevirtual 91, 3) := by decide +kernel
theorem dX5_pointValue_7 : decode cX5_pointValue 7 = .ok (.aload_n 0, 1) := by decide +kernel
theorem dX5_pointValue_8 : decode cX5_pointValue 8 = .ok (.getfield 11, 3) := by decide +kernel
theorem dX5_pointValue_11 : decode cX5_pointValue 11 = .ok (.iconst 3, 1) := by decide +kernel
theorem dX5_pointValue_12 : decode cX5_pointValue 12 = .ok (.iaload, 1) := by decide +kernel
theorem dX5_pointValue_13 : decode cX5_pointValue 13 = .ok (.iload_n 2, 1) := by decide +kernel
theorem dX5_pointValue_14 : decode cX5_pointValue 14 = .ok (.imul, 1) := by decide +kernel
theorem dX5_pointValue_15 : decode cX5_pointValue 15 = .ok (.iadd, 1) := by decide +kernel
theorem dX5_pointValue_16 : decode cX5_pointValue 16 = .ok (.i2l, 1) := by decide +kernel
theorem dX5_pointValue_17 : decode cX5_pointValue 17 = .ok (.aload_n 0, 1) := by decide +kernel
theorem dX5_pointValue_18 : decode cX5_pointValue 18 = .ok (.iload_n 1, 1) := by decide +kernel
theorem dX5_pointValue_19 : decode cX5_pointValue 19 = .ok (.iconst 1, 1) := by decide +kernel
theorem dX5_pointValue_20 : decode cX5_pointValue 20 = .ok (.invokevirtual 91, 3) := by decide +kernel
theorem dX5_pointValue_23 : decode cX5_pointValue 23 = .ok (.aload_n 0, 1) := by decide +kernel
theorem dX5_pointValue_24 : decode cX5_pointValue 24 = .ok (.getfield 11, 3) := by decide +kernel
theorem dX5_pointValue_27 : decode cX5_pointValue 27 = .ok (.iconst 3, 1) := by decide +kernel
theorem dX5_pointValue_28 : decode cX5_pointValue 28 = .ok (.iaload, 1) := by decide +kernel
theorem dX5_pointValue_29 : decode cX5_pointValue 29 = .ok (.iload_n 3, 1) := by decide +kernel
theorem dX5_pointValue_30 : decode cX5_pointValue 30 = .ok (.imul, 1) := by decide +kernel
theorem dX5_pointValue_31 : decode cX5_pointValue 31 = .ok (.iadd, 1) := by decide +kernel
theorem dX5_pointValue_32 : decode cX5_pointValue 32 = .ok (.i2l, 1) := by decide +kernel
theorem dX5_pointValue_33 : decode cX5_pointValue 33 = .ok (.invokevirtual 75, 3) := by decide +kernel
theorem dX5_pointValue_36 : decode cX5_pointValue 36 = .ok (.lreturn, 1) := by decide +kernel
theorem dX5_slackLength_0 : decode cX5_slackLength 0 = .ok (.aload_n 0, 1) := by decide +kernel
theorem dX5_slackLength_1 : decode cX5_slackLength 1 = .ok (.iload_n 1, 1) := by decide +kernel
theorem dX5_slackLength_2 : decode cX5_slackLength 2 = .ok (.iconst 4, 1) := by decide +kernel
theorem dX5_slackLength_3 : decode cX5_slackLength 3 = .ok (.invokevirtual 69, 3) := by decide +kernel
theorem dX5_slackLength_6 : decode cX5_slackLength 6 = .ok (.invokestatic 94, 3) := by decide +kernel
theorem dX5_slackLength_9 : decode cX5_slackLength 9 = .ok (.aload_n 0, 1) := by decide +kernel
theorem dX5_slackLength_10 : decode cX5_slackLength 10 = .ok (.iload_n 1, 1) := by decide +kernel
theorem dX5_slackLength_11 : decode cX5_slackLength 11 = .ok (.iconst 5, 1) := by decide +kernel
theorem dX5_slackLength_12 : decode cX5_slackLength 12 = .ok (.invokevirtual 69, 3) := by decide +kernel
theorem dX5_slackLength_15 : decode cX5_slackLength 15 = .ok (.invokestatic 94, 3) := by decide +kernel
theorem dX5_slackLength_18 : decode cX5_slackLength 18 = .ok (.iadd, 1) := by decide +kernel
theorem dX5_slackLength_19 : decode cX5_slackLength 19 = .ok (.ireturn, 1) := by decide +kernel
theorem dX5_hasRoom_0 : decode cX5_hasRoom 0 = .ok (.aload_n 0, 1) := by decide +kernel
theorem dX5_hasRoom_1 : decode cX5_hasRoom 1 = .ok (.iload_n 1, 1) := by decide +kernel
theorem dX5_hasRoom_2 : decode cX5_hasRoom 2 = .ok (.iconst 0, 1) := by decide +kernel
theorem dX5_hasRoom_3 : decode cX5_hasRoom 3 = .ok (.invokevirtual 69, 3) := by decide +kernel
theorem dX5_hasRoom_6 : decode cX5_hasRoom 6 = .ok (.iload_n 2, 1) := by decide +kernel
theorem dX5_hasRoom_7 : decode cX5_hasRoom 7 = .ok (.iadd, 1) := by decide +kernel
theorem dX5_hasRoom_8 : decode cX5_hasRoom 8 = .ok (.invokestatic 94, 3) := by decide +kernel
theorem dX5_hasRoom_11 : decode cX5_hasRoom 11 = .ok (.ldc 98, 2) := by decide +kernel
theorem dX5_hasRoom_37 : decode cX5_hasRoom 37 = .ok (.ireturn, 1) := by decide +kernel
theorem dX5_hasRoom_13 : decode cX5_hasRoom 13 = .ok (.if_icmp .gt 23, 3) := by decide +kernel
theorem dX5_hasRoom_36 : decode cX5_hasRoom 36 = .ok (.iconst 0, 1) := by decide +kernel
theorem dX5_hasRoom_16 : decode cX5_hasRoom 16 = .ok (.aload_n 0, 1) := by decide +kernel
theorem dX5_hasRoom_17 : decode cX5_hasRoom 17 = .ok (.iload_n 1, 1) := by decide +kernel
theorem dX5_hasRoom_18 : decode cX5_hasRoom 18 = .ok (.iconst 1, 1) := by decide +kernel
theorem dX5_hasRoom_19 : decode cX5_hasRoom 19 = .ok (.invokevirtual 69, 3) := by decide +kernel
theorem dX5_hasRoom_22 : decode cX5_hasRoom 22 = .ok (.iload_n 3, 1) := by decide +kernel
theorem dX5_hasRoom_23 : decode cX5_hasRoom 23 = .ok (.iadd, 1) := by decide +kernel
theorem dX5_hasRoom_24 : decode cX5_hasRoom 24 = .ok (.invokestatic 94, 3) := by decide +kernel
theorem dX5_hasRoom_27 : decode cX5_hasRoom 27 = .ok (.ldc 98, 2) := by decide +kernel
theorem dX5_hasRoom_29 : decode cX5_hasRoom 29 = .ok (.if_icmp .gt 7, 3) := by decide +kernel
theorem dX5_hasRoom_32 : decode cX5_hasRoom 32 = .ok (.iconst 1, 1) := by decide +kernel
theorem dX5_hasRoom_33 : decode cX5_hasRoom 33 = .ok (.goto 4, 3) := by decide +kernel
def v_s_total : List Cond := .code yX5_total cX5_total 4 (some .int) :: ([.methodLink RX5 45 yX5_sites, .instanceMethod yX5_sites, .selects RX5 yX5_sites yX5_sites, .initialized RX5, .methodLink RX5 69 yX5_of, .instanceMethod yX5_of, .selects RX5 yX5_of yX5_of] ++ (v_s_sites ++ (v_s_of ++ ([]))))
theorem gw_s_total : v_s_total.all goodWord = true := by decide +kernel
theorem g_s_total_s_sites_45 : GoodIn v_s_total (wsV RX5 45 RX5 yX5_sites v_s_sites) := goodIn_app (goodIn_of _ (by decide +kernel)) (goodIn_sub (fun _ h => List.mem_cons_of_mem _ (List.mem_append_right _ (List.mem_append_left _ h))) gw_s_sites)
theorem g_s_total_s_of_69 : GoodIn v_s_total (wsV RX5 69 RX5 yX5_of v_s_of) := goodIn_app (goodIn_of _ (by decide +kernel)) (goodIn_sub (fun _ h => List.mem_cons_of_mem _ (List.mem_append_right _ (List.mem_append_right _ (List.mem_append_left _ h)))) gw_s_of)
set_option maxHeartbeats 4000000 in
set_option maxRecDepth 100000 in
theorem lp_s_total_4 {p : Program} (l : Launch) {e : Env} {s : State} {m : MethodId} {below : List Frame} {meth : Method} {c : Code} {Q : State → Prop} (E : EE) {h g1 g2 g3 g4 k : Nat} {ka ko : Int32} {f : Nat → Int32} {p0 : Int32} (hk : f 3 = nI k) (hk8 : k ≤ 8) (hx : p.tables.exec = Jvm.exec) (hb : c.code = cX5_total) (hml : c.maxLocals = 4) (hown : s.vm.findClass RX5 = some m.cls) (hts : ∀ w ∈ v_s_total, w.before #[Value.ref h, Value.int p0] s = true) (hK : va_K E.1 vwCl (TY E) s) (hN : NX s) (hP : va_P E.1 vwCl [(h, .inr (6, [.ref g1, .ref g2, .int ka, .int ko, .ref g3, .ref g4])), (g1, .inl (E.2.1, 81, .inl f))] s.heap) (KX27 : ∀ (v2 : Int32), ∀ (i : Nat), ∀ (ls : Array Slot), i ≤ 8 → lv_has ls 4 [(0, .ref h), (1, .int p0), (2, .int v2), (3, .int (nI i))] → W p l e ({ frames := 1, cells := 0, slots := 0, locals := 22 } : Room) s m #[Value.ref h, Value.int p0] below meth c s.heap [] 0 0 Q (F0 m 27 ls [])) : ∀ fuel9 : Nat, ∀ (v2 : Int32), ∀ (i : Nat), ∀ (ls : Array Slot), i ≤ 8 → (9 - i) < fuel9 → lv_has ls 4 [(0, .ref h), (1, .int p0), (2, .int v2), (3, .int (nI i))] → W p l e ({ frames := 1, cells := 0, slots := 0, locals := 22 } : Room) s m #[Value.ref h, Value.int p0] below meth c s.heap [] 0 0 Q (F0 m 4 ls []) := by
  intro fuel9
  induction fuel9 with
  | zero =>
    intro v2 i ls hi hms hl
    omega
  | succ fuel9 ih =>
    intro v2 i ls hi hms hl
    refine lv_iload_n hx hb dX5_total_4 rfl (lv_at hl 3 rfl) ?_
    refine lv_aload_n hx hb dX5_total_5 rfl (lv_at hl 0 rfl) ?_
    have hPc := hP.sub (ws' := [(h, .inr (6, [.ref g1, .ref g2, .int ka, .int ko, .ref g3, .ref g4])), (g1, .inl (E.2.1, 81, .inl f))]) [0, 1] rfl
    refine pc_i (va_runV (As := []) (rest := [.int (nI i)]) ⟨hx, hb, hml, hown, hts⟩ (s_sites l E h g1 g2 g3 g4 k ka ko f hk (by omega)) (cwV 0 hts g_s_total_s_sites_45 rfl rfl rfl (by decide +kernel) ⟨Nat.le_of_ble_eq_true rfl, Nat.le_of_ble_eq_true rfl⟩) ⟨pP.blind, va_recv hK hPc (ci := 6) (q0 := 0) rfl rfl, (pP.pre ⟨hK, hN⟩ hPc)⟩ rfl rfl hl.1 rfl (lv_room (Nat.le_of_ble_eq_true rfl)) dX5_total_6 ⟨Nat.le_of_ble_eq_true rfl, Nat.le_of_ble_eq_true rfl⟩) (fun r_1 hr_1 => ?_)
    obtain rfl : r_1 = nI k := hr_1
    refine lv_icmp_ge (tgt := 27) hx hb dX5_total_9 (by decide) (fun c_2 => ?_) (fun c_2 => ?_)
    ·
      have d_5 : k ≤ i := nc_ge (a := i) (b := k) (by omega) (by omega) c_2
      exact KX27 v2 i ls (by omega) (lv_sub hl [0, 1, 2, 3] rfl)
    ·
      have d_6 : ¬ (k ≤ i) := nc_ge_n (a := i) (b := k) (by omega) (by omega) c_2
      refine lv_iload_n hx hb dX5_total_12 rfl (lv_at hl 2 rfl) ?_
      refine lv_aload_n hx hb dX5_total_13 rfl (lv_at hl 0 rfl) ?_
      refine lv_iload_n hx hb dX5_total_14 rfl (lv_at hl 3 rfl) ?_
      refine lv_iload_n hx hb dX5_total_15 rfl (lv_at hl 1 rfl) ?_
      have hPc := hP.sub (ws' := [(h, .inr (6, [.ref g1, .ref g2, .int ka, .int ko, .ref g3, .ref g4])), (g1, .inl (E.2.1, 81, .inl f))]) [0, 1] rfl
      refine pc_i (va_runV (As := [.int (nI i), .int p0]) (rest := [.int v2]) ⟨hx, hb, hml, hown, hts⟩ (s_of l E h g1 g2 g3 g4 k ka ko f (nI i) p0 hk (by omega)) (cwV 2 hts g_s_total_s_of_69 rfl rfl rfl (by decide +kernel) ⟨Nat.le_of_ble_eq_true rfl, Nat.le_of_ble_eq_true rfl⟩) ⟨pP.blind, va_recv hK hPc (ci := 6) (q0 := 0) rfl rfl, (pP.pre ⟨hK, hN⟩ hPc)⟩ rfl rfl hl.1 rfl (lv_room (Nat.le_of_ble_eq_true rfl)) dX5_total_16 ⟨Nat.le_of_ble_eq_true rfl, Nat.le_of_ble_eq_true rfl⟩) (fun r_7 hr_7 => ?_)
      refine lv_iadd hx hb dX5_total_19 ?_
      refine lv_topi (fun z_8 ez_8 => ?_)
      refine lv_istore_n (lv' := [(2, .int z_8), (0, .ref h), (1, .int p0), (3, .int (nI i))]) hx hb dX5_total_20 rfl hl (by decide) rfl (fun ls hl => ?_)
      refine lv_iinc (v := nI (i + 1)) (lv' := [(3, .int (nI (i + 1))), (2, .int z_8), (0, .ref h), (1, .int p0)]) hx hb dX5_total_21 hl (k := 3) rfl (show nI (i) + 1 = nI (i + 1) from nI_add _ 1) (by decide) rfl (fun ls hl => ?_)
      refine lv_goto (tgt := 4) hx hb dX5_total_24 (by decide) ?_
      exact ih z_8 (i + 1) ls (by omega) (by omega) (lv_sub hl [2, 3, 1, 0] rfl)

set_option maxHeartbeats 4000000 in
set_option maxRecDepth 100000 in
theorem s_total (l : Launch) (E : EE) (h g1 g2 g3 g4 k : Nat) (ka ko : Int32) (f : Nat → Int32) (p0 : Int32) (hk : f 3 = nI k) (hk8 : k ≤ 8) : Met l yX5_total v_s_total ({ frames := 1, cells := 0, slots := 0, locals := 22 }) (va_Pc [.ref h, .int p0] (pP E [(h, .inr (6, [.ref g1, .ref g2, .int ka, .int ko, .ref g3, .ref g4])), (g1, .inl (E.2.1, 81, .inl f))])) (vp_Si (fun r : Int32 => True)) 0 0 (fun _ => False) := by
  refine Met.ofW (cc := cX5_total) (maxL := 4) (ret := (some .int)) (by decide) rfl ?_
  intro p e s m args below meth c s₁ B hml hv
  obtain ⟨rfl, ⟨hK, hN⟩, hP⟩ := hv
  have hx := B.exec
  have hb := B.bytes
  have hr := B.returns
  have hts := atoms_spec (ws := v_s_total) B.pre
  have hown : s.vm.findClass RX5 = some m.cls := findClass_of_methodNamed B.named
  have hlocks := B.notSynchronized
  have hP : va_P E.1 vwCl [(h, .inr (6, [.ref g1, .ref g2, .int ka, .int ko, .ref g3, .ref g4])), (g1, .inl (E.2.1, 81, .inl f))] s.heap := hP
  have hl := lv_entry ([.ref h, .int p0]) (n := 4) (Nat.le_of_ble_eq_true rfl)
  rw [lg_entry_eq]
  generalize (lg_sl ([.ref h, .int p0]) ++ List.replicate (4 - (lg_sl ([.ref h, .int p0])).length) Slot.unset).toArray = ls at hl ⊢
  have hl : lv_has ls 4 [(0, .ref h), (1, .int p0)] := hl
  obtain ⟨Q, hQ⟩ : ∃ Q : State → Prop, Q = MQ below (vp_Si (fun r : Int32 => True)) #[Value.ref h, Value.int p0] s 0 0 (fun _ => False) := ⟨_, rfl⟩
  rw [← hQ]
  change W p l e ({ frames := 1, cells := 0, slots := 0, locals := 22 } : Room) s m #[Value.ref h, Value.int p0] below meth c s.heap [] 0 0 Q (F0 m 0 ls [])
  refine lv_iconst (v := 0) hx hb dX5_total_0 (by decide) ?_
  refine lv_istore_n (lv' := [(2, .int 0), (0, .ref h), (1, .int p0)]) hx hb dX5_total_1 rfl hl (by decide) rfl (fun ls hl => ?_)
  refine lv_iconst (v := 0) hx hb dX5_total_2 (by decide) ?_
  refine lv_istore_n (lv' := [(3, .int 0), (2, .int 0), (0, .ref h), (1, .int p0)]) hx hb dX5_total_3 rfl hl (by decide) rfl (fun ls hl => ?_)
  refine lp_s_total_4 (h := h) (g1 := g1) (g2 := g2) (g3 := g3) (g4 := g4) (k := k) (ka := ka) (ko := ko) (f := f) (p0 := p0) l E hk hk8 hx hb hml hown hts hK hN hP ?_ (10) 0 0 ls (by omega) (by omega) (lv_sub hl [2, 3, 1, 0] rfl)
  ·
    intro v2 i ls hi hl
    refine lv_iload_n hx hb dX5_total_27 rfl (lv_at hl 2 rfl) ?_
    rw [hQ]
    exact W.iret (v := v2) hx hb hr (fun tt ht hW => ⟨_, rfl, trivial, ht⟩) (fun _ h => by cases h) dX5_total_28

def v_s_point : List Cond := .code yX5_point cX5_point 3 (some .int) :: ([.fieldLink RX5 11 "HushWatch$State" "row" "[I", .methodLink RX5 72 yX5_drift, .instanceMethod yX5_drift, .selects RX5 yX5_drift yX5_drift, .initialized RX5] ++ (wsX50 ++ (v_s_drift ++ ([]))))
theorem gw_s_point : v_s_point.all goodWord = true := by decide +kernel
theorem i_s_point_X5 : ∀ w ∈ wsX50, w ∈ v_s_point := fun _ h => List.mem_cons_of_mem _ (List.mem_append_right _ (List.mem_append_left _ h))
theorem g_s_point_s_drift_72 : GoodIn v_s_point (wsV RX5 72 RX5 yX5_drift v_s_drift) := goodIn_app (goodIn_of _ (by decide +kernel)) (goodIn_sub (fun _ h => List.mem_cons_of_mem _ (List.mem_append_right _ (List.mem_append_right _ (List.mem_append_left _ h)))) gw_s_drift)
set_option maxHeartbeats 4000000 in
set_option maxRecDepth 100000 in
theorem s_point (l : Launch) (E : EE) (h g1 g2 g3 g4 k : Nat) (ka ko : Int32) (f : Nat → Int32) (p0 p1 : Int32) (hk : f 3 = nI k) (hk8 : k ≤ 8) : Met l yX5_point v_s_point ({ frames := 1, cells := 0, slots := 0, locals := 23 }) (va_Pc [.ref h, .int p0, .int p1] (pP E [(h, .inr (6, [.ref g1, .ref g2, .int ka, .int ko, .ref g3, .ref g4])), (g1, .inl (E.2.1, 81, .inl f))])) (vp_Si (fun r : Int32 => True)) 0 0 (fun _ => False) := by
  refine Met.ofW (cc := cX5_point) (maxL := 3) (ret := (some .int)) (by decide) rfl ?_
  intro p e s m args below meth c s₁ B hml hv
  obtain ⟨rfl, ⟨hK, hN⟩, hP⟩ := hv
  have hx := B.exec
  have hb := B.bytes
  have hr := B.returns
  have hts := atoms_spec (ws := v_s_point) B.pre
  have hown : s.vm.findClass RX5 = some m.cls := findClass_of_methodNamed B.named
  have hlocks := B.notSynchronized
  have hP : va_P E.1 vwCl [(h, .inr (6, [.ref g1, .ref g2, .int ka, .int ko, .ref g3, .ref g4])), (g1, .inl (E.2.1, 81, .inl f))] s.heap := hP
  have hl := lv_entry ([.ref h, .int p0, .int p1]) (n := 3) (Nat.le_of_ble_eq_true rfl)
  rw [lg_entry_eq]
  generalize (lg_sl ([.ref h, .int p0, .int p1]) ++ List.replicate (3 - (lg_sl ([.ref h, .int p0, .int p1])).length) Slot.unset).toArray = ls at hl ⊢
  have hl : lv_has ls 3 [(0, .ref h), (1, .int p0), (2, .int p1)] := hl
  obtain ⟨Q, hQ⟩ : ∃ Q : State → Prop, Q = MQ below (vp_Si (fun r : Int32 => True)) #[Value.ref h, Value.int p0, Value.int p1] s 0 0 (fun _ => False) := ⟨_, rfl⟩
  rw [← hQ]
  change W p l e ({ frames := 1, cells := 0, slots := 0, locals := 23 } : Room) s m #[Value.ref h, Value.int p0, Value.int p1] below meth c s.heap [] 0 0 Q (F0 m 0 ls [])
  refine lv_iload_n hx hb dX5_point_0 rfl (lv_at hl 2 rfl) ?_
  have K_6 : ∀ (y_5 : Int32), ∀ (ls : Array Slot), lv_has ls 3 [(0, .ref h), (1, .int p0), (2, .int p1)] → W p l e ({ frames := 1, cells := 0, slots := 0, locals := 23 } : Room) s m #[Value.ref h, Value.int p0, Value.int p1] below meth c s.heap [] 0 0 Q (F0 m 19 ls [.int y_5]) := by
    intro y_5 ls hl
    refine lv_aload_n hx hb dX5_point_19 rfl (lv_at hl 0 rfl) ?_
    refine va_get (D := E.1) (ci := 6) (v := .ref g1) (C := RX5) (T := TX5) (N := 6) hx hb hts i_s_point_X5 hown hK hP 0 rfl rfl 0 (by decide) (hts (.fieldLink RX5 11 "HushWatch$State" "row" "[I") (List.mem_of_getElem? (i := 1) rfl)) (fun _ h9 => h9) rfl dX5_point_20 ?_
    refine lv_iconst (v := 3) hx hb dX5_point_23 (by decide) ?_
    refine va_iald hx hb hK hP 1 0 rfl rfl (vin rfl) dX5_point_24 ?_
    refine W.eq (g2 := F0 m 25 ls [.int (f 3), .int y_5]) rfl ?_
    refine W.eq (g2 := F0 m 25 ls [.int (nI k), .int y_5]) (by rw [hk]) ?_
    refine lv_aload_n hx hb dX5_point_25 rfl (lv_at hl 0 rfl) ?_
    refine lv_iload_n hx hb dX5_point_26 rfl (lv_at hl 1 rfl) ?_
    refine lv_iload_n hx hb dX5_point_27 rfl (lv_at hl 2 rfl) ?_
    have hPc := hP.sub (ws' := [(h, .inr (6, [.ref g1, .ref g2, .int ka, .int ko, .ref g3, .ref g4])), (g1, .inl (E.2.1, 81, .inl f))]) [0, 1] rfl
    refine pc_i (va_runV (As := [.int p0, .int p1]) (rest := [.int (nI k), .int y_5]) ⟨hx, hb, hml, hown, hts⟩ (s_drift l E h g1 g2 g3 g4 k ka ko f p0 p1 hk (by omega)) (cwV 2 hts g_s_point_s_drift_72 rfl rfl rfl (by decide +kernel) ⟨Nat.le_of_ble_eq_true rfl, Nat.le_of_ble_eq_true rfl⟩) ⟨pP.blind, va_recv hK hPc (ci := 6) (q0 := 0) rfl rfl, (pP.pre ⟨hK, hN⟩ hPc)⟩ rfl rfl hl.1 rfl (lv_room (Nat.le_of_ble_eq_true rfl)) dX5_point_28 ⟨Nat.le_of_ble_eq_true rfl, Nat.le_of_ble_eq_true rfl⟩) (fun r_7 hr_7 => ?_)
    refine lv_imul hx hb dX5_point_31 ?_
    refine lv_topi (fun z_8 ez_8 => ?_)
    refine lv_iadd hx hb dX5_point_32 ?_
    refine lv_topi (fun z_9 ez_9 => ?_)
    rw [hQ]
    exact W.iret (v := z_9) hx hb hr (fun tt ht hW => ⟨_, rfl, trivial, ht⟩) (fun _ h => by cases h) dX5_point_33
  refine lv_if_ne (tgt := 13) hx hb dX5_point_1 (by decide) (fun c_1 => ?_) (fun c_1 => ?_)
  ·
    refine lv_aload_n hx hb dX5_point_13 rfl (lv_at hl 0 rfl) ?_
    refine va_get (D := E.1) (ci := 6) (v := .ref g1) (C := RX5) (T := TX5) (N := 6) hx hb hts i_s_point_X5 hown hK hP 0 rfl rfl 0 (by decide) (hts (.fieldLink RX5 11 "HushWatch$State" "row" "[I") (List.mem_of_getElem? (i := 1) rfl)) (fun _ h9 => h9) rfl dX5_point_14 ?_
    refine lv_iconst (v := 5) hx hb dX5_point_17 (by decide) ?_
    refine va_iald hx hb hK hP 1 0 rfl rfl (vin rfl) dX5_point_18 ?_
    refine W.eq (g2 := F0 m 19 ls [.int (f 5)]) rfl ?_
    refine lv_topi (fun z_10 ez_10 => ?_)
    exact K_6 z_10 ls  (lv_sub hl [0, 1, 2] rfl)
  ·
    obtain ⟨j_11, hj_11, ej_11⟩ : ∃ j : Nat, j ≤ 0 ∧ p1 = nI j := nat_rng (by have t0 : (0 : Int32).toInt = 0 := (by decide); simp only [Int32.lt_iff_toInt_lt, Int32.le_iff_toInt_le, ge_iff_le, gt_iff_lt, ne_eq, ← Int32.toInt_inj, t0] at c_1 ⊢; omega)
    refine lv_aload_n hx hb dX5_point_4 rfl (lv_at hl 0 rfl) ?_
    refine va_get (D := E.1) (ci := 6) (v := .ref g1) (C := RX5) (T := TX5) (N := 6) hx hb hts i_s_point_X5 hown hK hP 0 rfl rfl 0 (by decide) (hts (.fieldLink RX5 11 "HushWatch$State" "row" "[I") (List.mem_of_getElem? (i := 1) rfl)) (fun _ h9 => h9) rfl dX5_point_5 ?_
    refine lv_iconst (v := 4) hx hb dX5_point_8 (by decide) ?_
    refine va_iald hx hb hK hP 1 0 rfl rfl (vin rfl) dX5_point_9 ?_
    refine W.eq (g2 := F0 m 10 ls [.int (f 4)]) rfl ?_
    refine lv_topi (fun z_12 ez_12 => ?_)
    refine lv_goto (tgt := 19) hx hb dX5_point_10 (by decide) ?_
    exact K_6 z_12 ls  (lv_sub hl [0, 1, 2] rfl)

def v_s_allows : List Cond := .code yX5_allows cX5_allows 5 (some .boolean) :: ([.fieldLink RX5 11 "HushWatch$State" "row" "[I", .methodLink RX5 75 yX5_valueOf, .instanceMethod yX5_valueOf, .selects RX5 yX5_valueOf yX5_valueOf, .initialized RX5] ++ (v_s_valueOf ++ (wsX50 ++ ([]))))
theorem gw_s_allows : v_s_allows.all goodWord = true := by decide +kernel
theorem i_s_allows_X5 : ∀ w ∈ wsX50, w ∈ v_s_allows := fun _ h => List.mem_cons_of_mem _ (List.mem_append_right _ (List.mem_append_right _ (List.mem_append_left _ h)))
theorem g_s_allows_s_valueOf_75 : GoodIn v_s_allows (wsV RX5 75 RX5 yX5_valueOf v_s_valueOf) := goodIn_app (goodIn_of _ (by decide +kernel)) (goodIn_sub (fun _ h => List.mem_cons_of_mem _ (List.mem_append_right _ (List.mem_append_left _ h))) gw_s_valueOf)
set_option maxHeartbeats 4000000 in
set_option maxRecDepth 100000 in
theorem s_allows (l : Launch) (E : EE) (h g1 g2 g3 g4 k : Nat) (ka ko : Int32) (f : Nat → Int32) (p0 p1 : Int64) (hk : f 3 = nI k) (hk8 : k ≤ 8) : Met l yX5_allows v_s_allows ({ frames := 1, cells := 0, slots := 0, locals := 28 }) (va_Pc [.ref h, .long p0, .long p1] (pP E [(h, .inr (6, [.ref g1, .ref g2, .int ka, .int ko, .ref g3, .ref g4])), (g1, .inl (E.2.1, 81, .inl f))])) (vp_Si (fun r : Int32 => r = 0 ∨ r = 1)) 0 0 (fun _ => False) := by
  refine Met.ofW (cc := cX5_allows) (maxL := 5) (ret := (some .boolean)) (by decide) rfl ?_
  intro p e s m args below meth c s₁ B hml hv
  obtain ⟨rfl, ⟨hK, hN⟩, hP⟩ := hv
  have hx := B.exec
  have hb := B.bytes
  have hr := B.returns
  have hts := atoms_spec (ws := v_s_allows) B.pre
  have hown : s.vm.findClass RX5 = some m.cls := findClass_of_methodNamed B.named
  have hlocks := B.notSynchronized
  have hP : va_P E.1 vwCl [(h, .inr (6, [.ref g1, .ref g2, .int ka, .int ko, .ref g3, .ref g4])), (g1, .inl (E.2.1, 81, .inl f))] s.heap := hP
  have hl := lv_entry ([.ref h, .long p0, .long p1]) (n := 5) (Nat.le_of_ble_eq_true rfl)
  rw [lg_entry_eq]
  generalize (lg_sl ([.ref h, .long p0, .long p1]) ++ List.replicate (5 - (lg_sl ([.ref h, .long p0, .long p1])).length) Slot.unset).toArray = ls at hl ⊢
  have hl : lv_has ls 5 [(0, .ref h), (1, .long p0), (3, .long p1)] := hl
  obtain ⟨Q, hQ⟩ : ∃ Q : State → Prop, Q = MQ below (vp_Si (fun r : Int32 => r = 0 ∨ r = 1)) #[Value.ref h, Value.long p0, Value.long p1] s 0 0 (fun _ => False) := ⟨_, rfl⟩
  rw [← hQ]
  change W p l e ({ frames := 1, cells := 0, slots := 0, locals := 28 } : Room) s m #[Value.ref h, Value.long p0, Value.long p1] below meth c s.heap [] 0 0 Q (F0 m 0 ls [])
  refine lv_aload_n hx hb dX5_allows_0 rfl (lv_at hl 0 rfl) ?_
  refine lv_lload_n hx hb dX5_allows_1 rfl (lv_at hl 1 rfl) ?_
  refine lv_lload_n hx hb dX5_allows_2 rfl (lv_at hl 2 rfl) ?_
  have hPc := hP.sub (ws' := [(h, .inr (6, [.ref g1, .ref g2, .int ka, .int ko, .ref g3, .ref g4])), (g1, .inl (E.2.1, 81, .inl f))]) [0, 1] rfl
  refine pc_l (va_runV (As := [.long p0, .long p1]) (rest := []) ⟨hx, hb, hml, hown, hts⟩ (s_valueOf l E h g1 g2 g3 g4 k ka ko f p0 p1 hk (by omega)) (cwV 2 hts g_s_allows_s_valueOf_75 rfl rfl rfl (by decide +kernel) ⟨Nat.le_of_ble_eq_true rfl, Nat.le_of_ble_eq_true rfl⟩) ⟨pP.blind, va_recv hK hPc (ci := 6) (q0 := 0) rfl rfl, (pP.pre ⟨hK, hN⟩ hPc)⟩ rfl rfl hl.1 rfl (lv_room (Nat.le_of_ble_eq_true rfl)) dX5_allows_3 ⟨Nat.le_of_ble_eq_true rfl, Nat.le_of_ble_eq_true rfl⟩) (fun r_1 hr_1 => ?_)
  refine lv_aload_n hx hb dX5_allows_6 rfl (lv_at hl 0 rfl) ?_
  refine va_get (D := E.1) (ci := 6) (v := .ref g1) (C := RX5) (T := TX5) (N := 6) hx hb hts i_s_allows_X5 hown hK hP 0 rfl rfl 0 (by decide) (hts (.fieldLink RX5 11 "HushWatch$State" "row" "[I") (List.mem_of_getElem? (i := 1) rfl)) (fun _ h9 => h9) rfl dX5_allows_7 ?_
  refine lv_iconst (v := 1) hx hb dX5_allows_10 (by decide) ?_
  refine va_iald hx hb hK hP 1 0 rfl rfl (vin rfl) dX5_allows_11 ?_
  refine W.eq (g2 := F0 m 12 ls [.int (f 1), .long r_1]) rfl ?_
  refine lv_topi (fun z_2 ez_2 => ?_)
  refine lv_i2l (v := z_2.toInt64) hx hb dX5_allows_12 rfl ?_
  refine W.lcmp hx hb dX5_allows_13 ?_
  refine lv_topi (fun z_3 ez_3 => ?_)
  have K_6 : ∀ (y_5 : Nat), ∀ (ls : Array Slot), y_5 ≤ 1 → lv_has ls 5 [(0, .ref h), (1, .long p0), (3, .long p1)] → W p l e ({ frames := 1, cells := 0, slots := 0, locals := 28 } : Room) s m #[Value.ref h, Value.long p0, Value.long p1] below meth c s.heap [] 0 0 Q (F0 m 22 ls [.int (nI y_5)]) := by
    intro y_5 ls hy_5 hl
    rw [hQ]
    exact W.zret (v := nI y_5) hx hb hr (nar_nat (by omega)) (fun tt ht hW => ⟨_, rfl, nat_bool (by omega), ht⟩) (fun _ h => by cases h) dX5_allows_22
  refine lv_if_ge (tgt := 21) hx hb dX5_allows_14 (by decide) (fun c_4 => ?_) (fun c_4 => ?_)
  ·
    refine lv_iconst (v := 0) hx hb dX5_allows_21 (by decide) ?_
    exact K_6 0 ls (by omega) (lv_sub hl [0, 1, 2] rfl)
  ·
    refine lv_iconst (v := 1) hx hb dX5_allows_17 (by decide) ?_
    refine lv_goto (tgt := 22) hx hb dX5_allows_18 (by decide) ?_
    exact K_6 1 ls (by omega) (lv_sub hl [0, 1, 2] rfl)

def v_s_isFrozen : List Cond := .code yX5_isFrozen cX5_isFrozen 2 (some .boolean) :: ([.fieldLink RX5 11 "HushWatch$State" "row" "[I", .methodLink RX5 79 yX5_hasSite, .instanceMethod yX5_hasSite, .selects RX5 yX5_hasSite yX5_hasSite, .initialized RX5] ++ (v_s_hasSite ++ (wsX50 ++ ([]))))
theorem gw_s_isFrozen : v_s_isFrozen.all goodWord = true := by decide +kernel
theorem i_s_isFrozen_X5 : ∀ w ∈ wsX50, w ∈ v_s_isFrozen := fun _ h => List.mem_cons_of_mem _ (List.mem_append_right _ (List.mem_append_right _ (List.mem_append_left _ h)))
theorem g_s_isFrozen_s_hasSite_79 : GoodIn v_s_isFrozen (wsV RX5 79 RX5 yX5_hasSite v_s_hasSite) := goodIn_app (goodIn_of _ (by decide +kernel)) (goodIn_sub (fun _ h => List.mem_cons_of_mem _ (List.mem_append_right _ (List.mem_append_left _ h))) gw_s_hasSite)
set_option maxHeartbeats 4000000 in
set_option maxRecDepth 100000 in
theorem s_isFrozen (l : Launch) (E : EE) (h g1 g2 g3 g4 k : Nat) (ka ko : Int32) (f : Nat → Int32) (p0 : Int32) (hk : f 3 = nI k) (hk8 : k ≤ 8) : Met l yX5_isFrozen v_s_isFrozen ({ frames := 1, cells := 0, slots := 0, locals := 21 }) (va_Pc [.ref h, .int p0] (pP E [(h, .inr (6, [.ref g1, .ref g2, .int ka, .int ko, .ref g3, .ref g4])), (g1, .inl (E.2.1, 81, .inl f))])) (vp_Si (fun r : Int32 => r = 0 ∨ r = 1)) 0 0 (fun _ => False) := by
  refine Met.ofW (cc := cX5_isFrozen) (maxL := 2) (ret := (some .boolean)) (by decide) rfl ?_
  intro p e s m args below meth c s₁ B hml hv
  obtain ⟨rfl, ⟨hK, hN⟩, hP⟩ := hv
  have hx := B.exec
  have hb := B.bytes
  have hr := B.returns
  have hts := atoms_spec (ws := v_s_isFrozen) B.pre
  have hown : s.vm.findClass RX5 = some m.cls := findClass_of_methodNamed B.named
  have hlocks := B.notSynchronized
  have hP : va_P E.1 vwCl [(h, .inr (6, [.ref g1, .ref g2, .int ka, .int ko, .ref g3, .ref g4])), (g1, .inl (E.2.1, 81, .inl f))] s.heap := hP
  have hl := lv_entry ([.ref h, .int p0]) (n := 2) (Nat.le_of_ble_eq_true rfl)
  rw [lg_entry_eq]
  generalize (lg_sl ([.ref h, .int p0]) ++ List.replicate (2 - (lg_sl ([.ref h, .int p0])).length) Slot.unset).toArray = ls at hl ⊢
  have hl : lv_has ls 2 [(0, .ref h), (1, .int p0)] := hl
  obtain ⟨Q, hQ⟩ : ∃ Q : State → Prop, Q = MQ below (vp_Si (fun r : Int32 => r = 0 ∨ r = 1)) #[Value.ref h, Value.int p0] s 0 0 (fun _ => False) := ⟨_, rfl⟩
  rw [← hQ]
  change W p l e ({ frames := 1, cells := 0, slots := 0, locals := 21 } : Room) s m #[Value.ref h, Value.int p0] below meth c s.heap [] 0 0 Q (F0 m 0 ls [])
  refine lv_aload_n hx hb dX5_isFrozen_0 rfl (lv_at hl 0 rfl) ?_
  refine lv_iload_n hx hb dX5_isFrozen_1 rfl (lv_at hl 1 rfl) ?_
  have hPc := hP.sub (ws' := [(h, .inr (6, [.ref g1, .ref g2, .int ka, .int ko, .ref g3, .ref g4])), (g1, .inl (E.2.1, 81, .inl f))]) [0, 1] rfl
  refine pc_i (va_runV (As := [.int p0]) (rest := []) ⟨hx, hb, hml, hown, hts⟩ (s_hasSite l E h g1 g2 g3 g4 k ka ko f p0 hk (by omega)) (cwV 1 hts g_s_isFrozen_s_hasSite_79 rfl rfl rfl (by decide +kernel) ⟨Nat.le_of_ble_eq_true rfl, Nat.le_of_ble_eq_true rfl⟩) ⟨pP.blind, va_recv hK hPc (ci := 6) (q0 := 0) rfl rfl, (pP.pre ⟨hK, hN⟩ hPc)⟩ rfl rfl hl.1 rfl (lv_room (Nat.le_of_ble_eq_true rfl)) dX5_isFrozen_2 ⟨Nat.le_of_ble_eq_true rfl, Nat.le_of_ble_eq_true rfl⟩) (fun r_1 hr_1 => ?_)
  have K_13 : ∀ (y_12 : Nat), ∀ (ls : Array Slot), y_12 ≤ 1 → lv_has ls 2 [(0, .ref h), (1, .int p0)] → W p l e ({ frames := 1, cells := 0, slots := 0, locals := 21 } : Room) s m #[Value.ref h, Value.int p0] below meth c s.heap [] 0 0 Q (F0 m 27 ls [.int (nI y_12)]) := by
    intro y_12 ls hy_12 hl
    rw [hQ]
    exact W.zret (v := nI y_12) hx hb hr (nar_nat (by omega)) (fun tt ht hW => ⟨_, rfl, nat_bool (by omega), ht⟩) (fun _ h => by cases h) dX5_isFrozen_27
  refine lv_if_eq (tgt := 26) hx hb dX5_isFrozen_5 (by decide) (fun c_2 => ?_) (fun c_2 => ?_)
  ·
    obtain ⟨j_14, hj_14, ej_14⟩ : ∃ j : Nat, j ≤ 0 ∧ r_1 = nI j := nat_rng (by have t0 : (0 : Int32).toInt = 0 := (by decide); simp only [Int32.lt_iff_toInt_lt, Int32.le_iff_toInt_le, ge_iff_le, gt_iff_lt, ne_eq, ← Int32.toInt_inj, t0] at c_2 ⊢; omega)
    refine lv_iconst (v := 0) hx hb dX5_isFrozen_26 (by decide) ?_
    exact K_13 0 ls (by omega) (lv_sub hl [0, 1] rfl)
  ·
    refine lv_aload_n hx hb dX5_isFrozen_8 rfl (lv_at hl 0 rfl) ?_
    refine va_get (D := E.1) (ci := 6) (v := .ref g1) (C := RX5) (T := TX5) (N := 6) hx hb hts i_s_isFrozen_X5 hown hK hP 0 rfl rfl 0 (by decide) (hts (.fieldLink RX5 11 "HushWatch$State" "row" "[I") (List.mem_of_getElem? (i := 1) rfl)) (fun _ h9 => h9) rfl dX5_isFrozen_9 ?_
    refine lv_bipush (v := 7) hx hb dX5_isFrozen_12 (by decide) ?_
    refine va_iald hx hb hK hP 1 0 rfl rfl (vin rfl) dX5_isFrozen_14 ?_
    refine W.eq (g2 := F0 m 15 ls [.int (f 7)]) rfl ?_
    refine lv_topi (fun z_15 ez_15 => ?_)
    refine lv_iload_n hx hb dX5_isFrozen_15 rfl (lv_at hl 1 rfl) ?_
    refine lv_ishr hx hb dX5_isFrozen_16 ?_
    refine lv_topi (fun z_16 ez_16 => ?_)
    refine lv_iconst (v := 1) hx hb dX5_isFrozen_17 (by decide) ?_
    refine lv_iand hx hb dX5_isFrozen_18 ?_
    refine lv_topi (fun z_17 ez_17 => ?_)
    have K_21 : ∀ (y_20 : Nat), ∀ (ls : Array Slot), y_20 ≤ 1 → lv_has ls 2 [(0, .ref h), (1, .int p0)] → W p l e ({ frames := 1, cells := 0, slots := 0, locals := 21 } : Room) s m #[Value.ref h, Value.int p0] below meth c s.heap [] 0 0 Q (F0 m 27 ls [.int (nI y_20)]) := by
      intro y_20 ls hy_20 hl
      exact K_13 y_20 ls (by omega) (lv_sub hl [0, 1] rfl)
    refine lv_if_eq (tgt := 26) hx hb dX5_isFrozen_19 (by decide) (fun c_18 => ?_) (fun c_18 => ?_)
    ·
      obtain ⟨j_22, hj_22, ej_22⟩ : ∃ j : Nat, j ≤ 0 ∧ z_17 = nI j := nat_rng (by have t0 : (0 : Int32).toInt = 0 := (by decide); simp only [Int32.lt_iff_toInt_lt, Int32.le_iff_toInt_le, ge_iff_le, gt_iff_lt, ne_eq, ← Int32.toInt_inj, t0] at c_18 ⊢; omega)
      refine lv_iconst (v := 0) hx hb dX5_isFrozen_26 (by decide) ?_
      exact K_21 0 ls (by omega) (lv_sub hl [0, 1] rfl)
    ·
      refine lv_iconst (v := 1) hx hb dX5_isFrozen_22 (by decide) ?_
      refine lv_goto (tgt := 27) hx hb dX5_isFrozen_23 (by decide) ?_
      exact K_21 1 ls (by omega) (lv_sub hl [0, 1] rfl)

def v_s_isQuietDrift : List Cond := .code yX5_isQuietDrift cX5_isQuietDrift 3 (some .boolean) :: ([.fieldLink RX5 11 "HushWatch$State" "row" "[I", .methodLink RX5 83 yX5_isAbove, .instanceMethod yX5_isAbove, .selects RX5 yX5_isAbove yX5_isAbove, .initialized RX5, .methodLink RX5 75 yX5_valueOf, .instanceMethod yX5_valueOf, .selects RX5 yX5_valueOf yX5_valueOf] ++ (v_s_isAbove ++ (wsX50 ++ (v_s_valueOf ++ ([])))))
theorem gw_s_isQuietDrift : v_s_isQuietDrift.all goodWord = true := by decide +kernel
theorem i_s_isQuietDrift_X5 : ∀ w ∈ wsX50, w ∈ v_s_isQuietDrift := fun _ h => List.mem_cons_of_mem _ (List.mem_append_right _ (List.mem_append_right _ (List.mem_append_left _ h)))
theorem g_s_isQuietDrift_s_isAbove_83 : GoodIn v_s_isQuietDrift (wsV RX5 83 RX5 yX5_isAbove v_s_isAbove) := goodIn_app (goodIn_of _ (by decide +kernel)) (goodIn_sub (fun _ h => List.mem_cons_of_mem _ (List.mem_append_right _ (List.mem_append_left _ h))) gw_s_isAbove)
theorem g_s_isQuietDrift_s_valueOf_75 : GoodIn v_s_isQuietDrift (wsV RX5 75 RX5 yX5_valueOf v_s_valueOf) := goodIn_app (goodIn_of _ (by decide +kernel)) (goodIn_sub (fun _ h => List.mem_cons_of_mem _ (List.mem_append_right _ (List.mem_append_right _ (List.mem_append_right _ (List.mem_append_left _ h))))) gw_s_valueOf)
set_option maxHeartbeats 4000000 in
set_option maxRecDepth 100000 in
theorem s_isQuietDrift (l : Launch) (E : EE) (h g1 g2 g3 g4 k : Nat) (ka ko : Int32) (f : Nat → Int32) (p0 p1 : Int32) (hk : f 3 = nI k) (hk8 : k ≤ 8) : Met l yX5_isQuietDrift v_s_isQuietDrift ({ frames := 1, cells := 0, slots := 0, locals := 28 }) (va_Pc [.ref h, .int p0, .int p1] (pP E [(h, .inr (6, [.ref g1, .ref g2, .int ka, .int ko, .ref g3, .ref g4])), (g1, .inl (E.2.1, 81, .inl f))])) (vp_Si (fun r : Int32 => r = 0 ∨ r = 1)) 0 0 (fun _ => False) := by
  refine Met.ofW (cc := cX5_isQuietDrift) (maxL := 3) (ret := (some .boolean)) (by decide) rfl ?_
  intro p e s m args below meth c s₁ B hml hv
  obtain ⟨rfl, ⟨hK, hN⟩, hP⟩ := hv
  have hx := B.exec
  have hb := B.bytes
  have hr := B.returns
  have hts := atoms_spec (ws := v_s_isQuietDrift) B.pre
  have hown : s.vm.findClass RX5 = some m.cls := findClass_of_methodNamed B.named
  have hlocks := B.notSynchronized
  have hP : va_P E.1 vwCl [(h, .inr (6, [.ref g1, .ref g2, .int ka, .int ko, .ref g3, .ref g4])), (g1, .inl (E.2.1, 81, .inl f))] s.heap := hP
  have hl := lv_entry ([.ref h, .int p0, .int p1]) (n := 3) (Nat.le_of_ble_eq_true rfl)
  rw [lg_entry_eq]
  generalize (lg_sl ([.ref h, .int p0, .int p1]) ++ List.replicate (3 - (lg_sl ([.ref h, .int p0, .int p1])).length) Slot.unset).toArray = ls at hl ⊢
  have hl : lv_has ls 3 [(0, .ref h), (1, .int p0), (2, .int p1)] := hl
  obtain ⟨Q, hQ⟩ : ∃ Q : State → Prop, Q = MQ below (vp_Si (fun r : Int32 => r = 0 ∨ r = 1)) #[Value.ref h, Value.int p0, Value.int p1] s 0 0 (fun _ => False) := ⟨_, rfl⟩
  rw [← hQ]
  change W p l e ({ frames := 1, cells := 0, slots := 0, locals := 28 } : Room) s m #[Value.ref h, Value.int p0, Value.int p1] below meth c s.heap [] 0 0 Q (F0 m 0 ls [])
  refine lv_aload_n hx hb dX5_isQuietDrift_0 rfl (lv_at hl 0 rfl) ?_
  have hPc := hP.sub (ws' := [(h, .inr (6, [.ref g1, .ref g2, .int ka, .int ko, .ref g3, .ref g4])), (g1, .inl (E.2.1, 81, .inl f))]) [0, 1] rfl
  refine pc_i (va_runV (As := []) (rest := []) ⟨hx, hb, hml, hown, hts⟩ (s_isAbove l E h g1 g2 g3 g4 k ka ko f hk (by omega)) (cwV 0 hts g_s_isQuietDrift_s_isAbove_83 rfl rfl rfl (by decide +kernel) ⟨Nat.le_of_ble_eq_true rfl, Nat.le_of_ble_eq_true rfl⟩) ⟨pP.blind, va_recv hK hPc (ci := 6) (q0 := 0) rfl rfl, (pP.pre ⟨hK, hN⟩ hPc)⟩ rfl rfl hl.1 rfl (lv_room (Nat.le_of_ble_eq_true rfl)) dX5_isQuietDrift_1 ⟨Nat.le_of_ble_eq_true rfl, Nat.le_of_ble_eq_true rfl⟩) (fun r_1 hr_1 => ?_)
  refine lv_if_eq (tgt := 21) hx hb dX5_isQuietDrift_4 (by decide) (fun c_2 => ?_) (fun c_2 => ?_)
  ·
    obtain ⟨j_3, hj_3, ej_3⟩ : ∃ j : Nat, j ≤ 0 ∧ r_1 = nI j := nat_rng (by have t0 : (0 : Int32).toInt = 0 := (by decide); simp only [Int32.lt_iff_toInt_lt, Int32.le_iff_toInt_le, ge_iff_le, gt_iff_lt, ne_eq, ← Int32.toInt_inj, t0] at c_2 ⊢; omega)
    refine lv_aload_n hx hb dX5_isQuietDrift_21 rfl (lv_at hl 0 rfl) ?_
    refine lv_aload_n hx hb dX5_isQuietDrift_22 rfl (lv_at hl 0 rfl) ?_
    refine va_get (D := E.1) (ci := 6) (v := .ref g1) (C := RX5) (T := TX5) (N := 6) hx hb hts i_s_isQuietDrift_X5 hown hK hP 0 rfl rfl 0 (by decide) (hts (.fieldLink RX5 11 "HushWatch$State" "row" "[I") (List.mem_of_getElem? (i := 1) rfl)) (fun _ h9 => h9) rfl dX5_isQuietDrift_23 ?_
    refine lv_iconst (v := 4) hx hb dX5_isQuietDrift_26 (by decide) ?_
    refine va_iald hx hb hK hP 1 0 rfl rfl (vin rfl) dX5_isQuietDrift_27 ?_
    refine W.eq (g2 := F0 m 28 ls [.int (f 4), .ref h]) rfl ?_
    refine lv_topi (fun z_4 ez_4 => ?_)
    refine lv_aload_n hx hb dX5_isQuietDrift_28 rfl (lv_at hl 0 rfl) ?_
    refine va_get (D := E.1) (ci := 6) (v := .ref g1) (C := RX5) (T := TX5) (N := 6) hx hb hts i_s_isQuietDrift_X5 hown hK hP 0 rfl rfl 0 (by decide) (hts (.fieldLink RX5 11 "HushWatch$State" "row" "[I") (List.mem_of_getElem? (i := 1) rfl)) (fun _ h9 => h9) rfl dX5_isQuietDrift_29 ?_
    refine lv_iconst (v := 3) hx hb dX5_isQuietDrift_32 (by decide) ?_
    refine va_iald hx hb hK hP 1 0 rfl rfl (vin rfl) dX5_isQuietDrift_33 ?_
    refine W.eq (g2 := F0 m 34 ls [.int (f 3), .int z_4, .ref h]) rfl ?_
    refine W.eq (g2 := F0 m 34 ls [.int (nI k), .int z_4, .ref h]) (by rw [hk]) ?_
    refine lv_iload_n hx hb dX5_isQuietDrift_34 rfl (lv_at hl 1 rfl) ?_
    refine lv_imul hx hb dX5_isQuietDrift_35 ?_
    refine lv_topi (fun z_5 ez_5 => ?_)
    refine lv_iadd hx hb dX5_isQuietDrift_36 ?_
    refine lv_topi (fun z_6 ez_6 => ?_)
    refine lv_i2l (v := z_6.toInt64) hx hb dX5_isQuietDrift_37 rfl ?_
    refine lv_aload_n hx hb dX5_isQuietDrift_38 rfl (lv_at hl 0 rfl) ?_
    refine va_get (D := E.1) (ci := 6) (v := .ref g1) (C := RX5) (T := TX5) (N := 6) hx hb hts i_s_isQuietDrift_X5 hown hK hP 0 rfl rfl 0 (by decide) (hts (.fieldLink RX5 11 "HushWatch$State" "row" "[I") (List.mem_of_getElem? (i := 1) rfl)) (fun _ h9 => h9) rfl dX5_isQuietDrift_39 ?_
    refine lv_iconst (v := 5) hx hb dX5_isQuietDrift_42 (by decide) ?_
    refine va_iald hx hb hK hP 1 0 rfl rfl (vin rfl) dX5_isQuietDrift_43 ?_
    refine W.eq (g2 := F0 m 44 ls [.int (f 5), .long z_6.toInt64, .ref h]) rfl ?_
    refine lv_topi (fun z_7 ez_7 => ?_)
    refine lv_aload_n hx hb dX5_isQuietDrift_44 rfl (lv_at hl 0 rfl) ?_
    refine va_get (D := E.1) (ci := 6) (v := .ref g1) (C := RX5) (T := TX5) (N := 6) hx hb hts i_s_isQuietDrift_X5 hown hK hP 0 rfl rfl 0 (by decide) (hts (.fieldLink RX5 11 "HushWatch$State" "row" "[I") (List.mem_of_getElem? (i := 1) rfl)) (fun _ h9 => h9) rfl dX5_isQuietDrift_45 ?_
    refine lv_iconst (v := 3) hx hb dX5_isQuietDrift_48 (by decide) ?_
    refine va_iald hx hb hK hP 1 0 rfl rfl (vin rfl) dX5_isQuietDrift_49 ?_
    refine W.eq (g2 := F0 m 50 ls [.int (f 3), .int z_7, .long z_6.toInt64, .ref h]) rfl ?_
    refine W.eq (g2 := F0 m 50 ls [.int (nI k), .int z_7, .long z_6.toInt64, .ref h]) (by rw [hk]) ?_
    refine lv_iload_n hx hb dX5_isQuietDrift_50 rfl (lv_at hl 2 rfl) ?_
    refine lv_imul hx hb dX5_isQuietDrift_51 ?_
    refine lv_topi (fun z_8 ez_8 => ?_)
    refine lv_iadd hx hb dX5_isQuietDrift_52 ?_
    refine lv_topi (fun z_9 ez_9 => ?_)
    refine lv_i2l (v := z_9.toInt64) hx hb dX5_isQuietDrift_53 rfl ?_
    have hPc := hP.sub (ws' := [(h, .inr (6, [.ref g1, .ref g2, .int ka, .int ko, .ref g3, .ref g4])), (g1, .inl (E.2.1, 81, .inl f))]) [0, 1] rfl
    refine pc_l (va_runV (As := [.long z_6.toInt64, .long z_9.toInt64]) (rest := []) ⟨hx, hb, hml, hown, hts⟩ (s_valueOf l E h g1 g2 g3 g4 k ka ko f z_6.toInt64 z_9.toInt64 hk (by omega)) (cwV 2 hts g_s_isQuietDrift_s_valueOf_75 rfl rfl rfl (by decide +kernel) ⟨Nat.le_of_ble_eq_true rfl, Nat.le_of_ble_eq_true rfl⟩) ⟨pP.blind, va_recv hK hPc (ci := 6) (q0 := 0) rfl rfl, (pP.pre ⟨hK, hN⟩ hPc)⟩ rfl rfl hl.1 rfl (lv_room (Nat.le_of_ble_eq_true rfl)) dX5_isQuietDrift_54 ⟨Nat.le_of_ble_eq_true rfl, Nat.le_of_ble_eq_true rfl⟩) (fun r_10 hr_10 => ?_)
    refine lv_aload_n hx hb dX5_isQuietDrift_57 rfl (lv_at hl 0 rfl) ?_
    refine va_get (D := E.1) (ci := 6) (v := .ref g1) (C := RX5) (T := TX5) (N := 6) hx hb hts i_s_isQuietDrift_X5 hown hK hP 0 rfl rfl 0 (by decide) (hts (.fieldLink RX5 11 "HushWatch$State" "row" "[I") (List.mem_of_getElem? (i := 1) rfl)) (fun _ h9 => h9) rfl dX5_isQuietDrift_58 ?_
    refine lv_iconst (v := 1) hx hb dX5_isQuietDrift_61 (by decide) ?_
    refine va_iald hx hb hK hP 1 0 rfl rfl (vin rfl) dX5_isQuietDrift_62 ?_
    refine W.eq (g2 := F0 m 63 ls [.int (f 1), .long r_10]) rfl ?_
    refine lv_topi (fun z_11 ez_11 => ?_)
    refine lv_i2l (v := z_11.toInt64) hx hb dX5_isQuietDrift_63 rfl ?_
    refine W.lcmp hx hb dX5_isQuietDrift_64 ?_
    refine lv_topi (fun z_12 ez_12 => ?_)
    have K_15 : ∀ (y_14 : Nat), ∀ (ls : Array Slot), y_14 ≤ 1 → lv_has ls 3 [(0, .ref h), (1, .int p0), (2, .int p1)] → W p l e ({ frames := 1, cells := 0, slots := 0, locals := 28 } : Room) s m #[Value.ref h, Value.int p0, Value.int p1] below meth c s.heap [] 0 0 Q (F0 m 73 ls [.int (nI y_14)]) := by
      intro y_14 ls hy_14 hl
      rw [hQ]
      exact W.zret (v := nI y_14) hx hb hr (nar_nat (by omega)) (fun tt ht hW => ⟨_, rfl, nat_bool (by omega), ht⟩) (fun _ h => by cases h) dX5_isQuietDrift_73
    refine lv_if_ge (tgt := 72) hx hb dX5_isQuietDrift_65 (by decide) (fun c_13 => ?_) (fun c_13 => ?_)
    ·
      refine lv_iconst (v := 0) hx hb dX5_isQuietDrift_72 (by decide) ?_
      exact K_15 0 ls (by omega) (lv_sub hl [0, 1, 2] rfl)
    ·
      refine lv_iconst (v := 1) hx hb dX5_isQuietDrift_68 (by decide) ?_
      refine lv_goto (tgt := 73) hx hb dX5_isQuietDrift_69 (by decide) ?_
      exact K_15 1 ls (by omega) (lv_sub hl [0, 1, 2] rfl)
  ·
    refine lv_iload_n hx hb dX5_isQuietDrift_7 rfl (lv_at hl 1 rfl) ?_
    have K_24 : ∀ (y_23 : Nat), ∀ (ls : Array Slot), y_23 ≤ 1 → lv_has ls 3 [(0, .ref h), (1, .int p0), (2, .int p1)] → W p l e ({ frames := 1, cells := 0, slots := 0, locals := 28 } : Room) s m #[Value.ref h, Value.int p0, Value.int p1] below meth c s.heap [] 0 0 Q (F0 m 20 ls [.int (nI y_23)]) := by
      intro y_23 ls hy_23 hl
      rw [hQ]
      exact W.zret (v := nI y_23) hx hb hr (nar_nat (by omega)) (fun tt ht hW => ⟨_, rfl, nat_bool (by omega), ht⟩) (fun _ h => by cases h) dX5_isQuietDrift_20
    refine lv_if_ne (tgt := 19) hx hb dX5_isQuietDrift_8 (by decide) (fun c_16 => ?_) (fun c_16 => ?_)
    ·
      refine lv_iconst (v := 0) hx hb dX5_isQuietDrift_19 (by decide) ?_
      exact K_24 0 ls (by omega) (lv_sub hl [0, 1, 2] rfl)
    ·
      obtain ⟨j_25, hj_25, ej_25⟩ : ∃ j : Nat, j ≤ 0 ∧ p0 = nI j := nat_rng (by have t0 : (0 : Int32).toInt = 0 := (by decide); simp only [Int32.lt_iff_toInt_lt, Int32.le_iff_toInt_le, ge_iff_le, gt_iff_lt, ne_eq, ← Int32.toInt_inj, t0] at c_16 ⊢; omega)
      refine lv_iload_n hx hb dX5_isQuietDrift_11 rfl (lv_at hl 2 rfl) ?_
      have K_29 : ∀ (y_28 : Nat), ∀ (ls : Array Slot), y_28 ≤ 1 → lv_has ls 3 [(0, .ref h), (1, .int p0), (2, .int p1)] → W p l e ({ frames := 1, cells := 0, slots := 0, locals := 28 } : Room) s m #[Value.ref h, Value.int p0, Value.int p1] below meth c s.heap [] 0 0 Q (F0 m 20 ls [.int (nI y_28)]) := by
        intro y_28 ls hy_28 hl
        exact K_24 y_28 ls (by omega) (lv_sub hl [0, 1, 2] rfl)
      refine lv_if_ne (tgt := 19) hx hb dX5_isQuietDrift_12 (by decide) (fun c_26 => ?_) (fun c_26 => ?_)
      ·
        refine lv_iconst (v := 0) hx hb dX5_isQuietDrift_19 (by decide) ?_
        exact K_29 0 ls (by omega) (lv_sub hl [0, 1, 2] rfl)
      ·
        obtain ⟨j_30, hj_30, ej_30⟩ : ∃ j : Nat, j ≤ 0 ∧ p1 = nI j := nat_rng (by have t0 : (0 : Int32).toInt = 0 := (by decide); simp only [Int32.lt_iff_toInt_lt, Int32.le_iff_toInt_le, ge_iff_le, gt_iff_lt, ne_eq, ← Int32.toInt_inj, t0] at c_26 ⊢; omega)
        refine lv_iconst (v := 1) hx hb dX5_isQuietDrift_15 (by decide) ?_
        refine lv_goto (tgt := 20) hx hb dX5_isQuietDrift_16 (by decide) ?_
        exact K_29 1 ls (by omega) (lv_sub hl [0, 1, 2] rfl)

def v_s_isQuietWith : List Cond := .code yX5_isQuietWith cX5_isQuietWith 4 (some .boolean) :: ([.methodLink RX5 72 yX5_drift, .instanceMethod yX5_drift, .selects RX5 yX5_drift yX5_drift, .initialized RX5, .methodLink RX5 87 yX5_isQuietDrift, .instanceMethod yX5_isQuietDrift, .selects RX5 yX5_isQuietDrift yX5_isQuietDrift] ++ (v_s_drift ++ (v_s_isQuietDrift ++ ([]))))
theorem gw_s_isQuietWith : v_s_isQuietWith.all goodWord = true := by decide +kernel
theorem g_s_isQuietWith_s_drift_72 : GoodIn v_s_isQuietWith (wsV RX5 72 RX5 yX5_drift v_s_drift) := goodIn_app (goodIn_of _ (by decide +kernel)) (goodIn_sub (fun _ h => List.mem_cons_of_mem _ (List.mem_append_right _ (List.mem_append_left _ h))) gw_s_drift)
theorem g_s_isQuietWith_s_isQuietDrift_87 : GoodIn v_s_isQuietWith (wsV RX5 87 RX5 yX5_isQuietDrift v_s_isQuietDrift) := goodIn_app (goodIn_of _ (by decide +kernel)) (goodIn_sub (fun _ h => List.mem_cons_of_mem _ (List.mem_append_right _ (List.mem_append_right _ (List.mem_append_left _ h)))) gw_s_isQuietDrift)
set_option maxHeartbeats 4000000 in
set_option maxRecDepth 100000 in
theorem s_isQuietWith (l : Launch) (E : EE) (h g1 g2 g3 g4 k : Nat) (ka ko : Int32) (f : Nat → Int32) (p0 p1 p2 : Int32) (hk : f 3 = nI k) (hk8 : k ≤ 8) : Met l yX5_isQuietWith v_s_isQuietWith ({ frames := 2, cells := 0, slots := 0, locals := 50 }) (va_Pc [.ref h, .int p0, .int p1, .int p2] (pP E [(h, .inr (6, [.ref g1, .ref g2, .int ka, .int ko, .ref g3, .ref g4])), (g1, .inl (E.2.1, 81, .inl f))])) (vp_Si (fun r : Int32 => r = 0 ∨ r = 1)) 0 0 (fun _ => False) := by
  refine Met.ofW (cc := cX5_isQuietWith) (maxL := 4) (ret := (some .boolean)) (by decide) rfl ?_
  intro p e s m args below meth c s₁ B hml hv
  obtain ⟨rfl, ⟨hK, hN⟩, hP⟩ := hv
  have hx := B.exec
  have hb := B.bytes
  have hr := B.returns
  have hts := atoms_spec (ws := v_s_isQuietWith) B.pre
  have hown : s.vm.findClass RX5 = some m.cls := findClass_of_methodNamed B.named
  have hlocks := B.notSynchronized
  have hP : va_P E.1 vwCl [(h, .inr (6, [.ref g1, .ref g2, .int ka, .int ko, .ref g3, .ref g4])), (g1, .inl (E.2.1, 81, .inl f))] s.heap := hP
  have hl := lv_entry ([.ref h, .int p0, .int p1, .int p2]) (n := 4) (Nat.le_of_ble_eq_true rfl)
  rw [lg_entry_eq]
  generalize (lg_sl ([.ref h, .int p0, .int p1, .int p2]) ++ List.replicate (4 - (lg_sl ([.ref h, .int p0, .int p1, .int p2])).length) Slot.unset).toArray = ls at hl ⊢
  have hl : lv_has ls 4 [(0, .ref h), (1, .int p0), (2, .int p1), (3, .int p2)] := hl
  obtain ⟨Q, hQ⟩ : ∃ Q : State → Prop, Q = MQ below (vp_Si (fun r : Int32 => r = 0 ∨ r = 1)) #[Value.ref h, Value.int p0, Value.int p1, Value.int p2] s 0 0 (fun _ => False) := ⟨_, rfl⟩
  rw [← hQ]
  change W p l e ({ frames := 2, cells := 0, slots := 0, locals := 50 } : Room) s m #[Value.ref h, Value.int p0, Value.int p1, Value.int p2] below meth c s.heap [] 0 0 Q (F0 m 0 ls [])
  refine lv_aload_n hx hb dX5_isQuietWith_0 rfl (lv_at hl 0 rfl) ?_
  refine lv_aload_n hx hb dX5_isQuietWith_1 rfl (lv_at hl 0 rfl) ?_
  refine lv_iload_n hx hb dX5_isQuietWith_2 rfl (lv_at hl 1 rfl) ?_
  refine lv_iconst (v := 0) hx hb dX5_isQuietWith_3 (by decide) ?_
  have hPc := hP.sub (ws' := [(h, .inr (6, [.ref g1, .ref g2, .int ka, .int ko, .ref g3, .ref g4])), (g1, .inl (E.2.1, 81, .inl f))]) [0, 1] rfl
  refine pc_i (va_runV (As := [.int p0, .int 0]) (rest := [.ref h]) ⟨hx, hb, hml, hown, hts⟩ (s_drift l E h g1 g2 g3 g4 k ka ko f p0 0 hk (by omega)) (cwV 2 hts g_s_isQuietWith_s_drift_72 rfl rfl rfl (by decide +kernel) ⟨Nat.le_of_ble_eq_true rfl, Nat.le_of_ble_eq_true rfl⟩) ⟨pP.blind, va_recv hK hPc (ci := 6) (q0 := 0) rfl rfl, (pP.pre ⟨hK, hN⟩ hPc)⟩ rfl rfl hl.1 rfl (lv_room (Nat.le_of_ble_eq_true rfl)) dX5_isQuietWith_4 ⟨Nat.le_of_ble_eq_true rfl, Nat.le_of_ble_eq_true rfl⟩) (fun r_1 hr_1 => ?_)
  refine lv_iload_n hx hb dX5_isQuietWith_7 rfl (lv_at hl 2 rfl) ?_
  refine lv_iadd hx hb dX5_isQuietWith_8 ?_
  refine lv_topi (fun z_2 ez_2 => ?_)
  refine lv_aload_n hx hb dX5_isQuietWith_9 rfl (lv_at hl 0 rfl) ?_
  refine lv_iload_n hx hb dX5_isQuietWith_10 rfl (lv_at hl 1 rfl) ?_
  refine lv_iconst (v := 1) hx hb dX5_isQuietWith_11 (by decide) ?_
  have hPc := hP.sub (ws' := [(h, .inr (6, [.ref g1, .ref g2, .int ka, .int ko, .ref g3, .ref g4])), (g1, .inl (E.2.1, 81, .inl f))]) [0, 1] rfl
  refine pc_i (va_runV (As := [.int p0, .int 1]) (rest := [.int z_2, .ref h]) ⟨hx, hb, hml, hown, hts⟩ (s_drift l E h g1 g2 g3 g4 k ka ko f p0 1 hk (by omega)) (cwV 2 hts g_s_isQuietWith_s_drift_72 rfl rfl rfl (by decide +kernel) ⟨Nat.le_of_ble_eq_true rfl, Nat.le_of_ble_eq_true rfl⟩) ⟨pP.blind, va_recv hK hPc (ci := 6) (q0 := 0) rfl rfl, (pP.pre ⟨hK, hN⟩ hPc)⟩ rfl rfl hl.1 rfl (lv_room (Nat.le_of_ble_eq_true rfl)) dX5_isQuietWith_12 ⟨Nat.le_of_ble_eq_true rfl, Nat.le_of_ble_eq_true rfl⟩) (fun r_3 hr_3 => ?_)
  refine lv_iload_n hx hb dX5_isQuietWith_15 rfl (lv_at hl 3 rfl) ?_
  refine lv_iadd hx hb dX5_isQuietWith_16 ?_
  refine lv_topi (fun z_4 ez_4 => ?_)
  have hPc := hP.sub (ws' := [(h, .inr (6, [.ref g1, .ref g2, .int ka, .int ko, .ref g3, .ref g4])), (g1, .inl (E.2.1, 81, .inl f))]) [0, 1] rfl
  refine pc_i (va_runV (As := [.int z_2, .int z_4]) (rest := []) ⟨hx, hb, hml, hown, hts⟩ (s_isQuietDrift l E h g1 g2 g3 g4 k ka ko f z_2 z_4 hk (by omega)) (cwV 2 hts g_s_isQuietWith_s_isQuietDrift_87 rfl rfl rfl (by decide +kernel) ⟨Nat.le_of_ble_eq_true rfl, Nat.le_of_ble_eq_true rfl⟩) ⟨pP.blind, va_recv hK hPc (ci := 6) (q0 := 0) rfl rfl, (pP.pre ⟨hK, hN⟩ hPc)⟩ rfl rfl hl.1 rfl (lv_room (Nat.le_of_ble_eq_true rfl)) dX5_isQuietWith_17 ⟨Nat.le_of_ble_eq_true rfl, Nat.le_of_ble_eq_true rfl⟩) (fun r_5 hr_5 => ?_)
  rw [hQ]
  exact W.zret (v := r_5) hx hb hr (nar_bool hr_5) (fun tt ht hW => ⟨_, rfl, hr_5, ht⟩) (fun _ h => by cases h) dX5_isQuietWith_20

def v_s_isQuiet : List Cond := .code yX5_isQuiet cX5_isQuiet 2 (some .boolean) :: ([.methodLink RX5 72 yX5_drift, .instanceMethod yX5_drift, .selects RX5 yX5_drift yX5_drift, .initialized RX5, .methodLink RX5 87 yX5_isQuietDrift, .instanceMethod yX5_isQuietDrift, .selects RX5 yX5_isQuietDrift yX5_isQuietDrift] ++ (v_s_drift ++ (v_s_isQuietDrift ++ ([]))))
theorem gw_s_isQuiet : v_s_isQuiet.all goodWord = true := by decide +kernel
theorem g_s_isQuiet_s_drift_72 : GoodIn v_s_isQuiet (wsV RX5 72 RX5 yX5_drift v_s_drift) := goodIn_app (goodIn_of _ (by decide +kernel)) (goodIn_sub (fun _ h => List.mem_cons_of_mem _ (List.mem_append_right _ (List.mem_append_left _ h))) gw_s_drift)
theorem g_s_isQuiet_s_isQuietDrift_87 : GoodIn v_s_isQuiet (wsV RX5 87 RX5 yX5_isQuietDrift v_s_isQuietDrift) := goodIn_app (goodIn_of _ (by decide +kernel)) (goodIn_sub (fun _ h => List.mem_cons_of_mem _ (List.mem_append_right _ (List.mem_append_right _ (List.mem_append_left _ h)))) gw_s_isQuietDrift)
set_option maxHeartbeats 4000000 in
set_option maxRecDepth 100000 in
theorem s_isQuiet (l : Launch) (E : EE) (h g1 g2 g3 g4 k : Nat) (ka ko : Int32) (f : Nat → Int32) (p0 : Int32) (hk : f 3 = nI k) (hk8 : k ≤ 8) : Met l yX5_isQuiet v_s_isQuiet ({ frames := 2, cells := 0, slots := 0, locals := 50 }) (va_Pc [.ref h, .int p0] (pP E [(h, .inr (6, [.ref g1, .ref g2, .int ka, .int ko, .ref g3, .ref g4])), (g1, .inl (E.2.1, 81, .inl f))])) (vp_Si (fun r : Int32 => r = 0 ∨ r = 1)) 0 0 (fun _ => False) := by
  refine Met.ofW (cc := cX5_isQuiet) (maxL := 2) (ret := (some .boolean)) (by decide) rfl ?_
  intro p e s m args below meth c s₁ B hml hv
  obtain ⟨rfl, ⟨hK, hN⟩, hP⟩ := hv
  have hx := B.exec
  have hb := B.bytes
  have hr := B.returns
  have hts := atoms_spec (ws := v_s_isQuiet) B.pre
  have hown : s.vm.findClass RX5 = some m.cls := findClass_of_methodNamed B.named
  have hlocks := B.notSynchronized
  have hP : va_P E.1 vwCl [(h, .inr (6, [.ref g1, .ref g2, .int ka, .int ko, .ref g3, .ref g4])), (g1, .inl (E.2.1, 81, .inl f))] s.heap := hP
  have hl := lv_entry ([.ref h, .int p0]) (n := 2) (Nat.le_of_ble_eq_true rfl)
  rw [lg_entry_eq]
  generalize (lg_sl ([.ref h, .int p0]) ++ List.replicate (2 - (lg_sl ([.ref h, .int p0])).length) Slot.unset).toArray = ls at hl ⊢
  have hl : lv_has ls 2 [(0, .ref h), (1, .int p0)] := hl
  obtain ⟨Q, hQ⟩ : ∃ Q : State → Prop, Q = MQ below (vp_Si (fun r : Int32 => r = 0 ∨ r = 1)) #[Value.ref h, Value.int p0] s 0 0 (fun _ => False) := ⟨_, rfl⟩
  rw [← hQ]
  change W p l e ({ frames := 2, cells := 0, slots := 0, locals := 50 } : Room) s m #[Value.ref h, Value.int p0] below meth c s.heap [] 0 0 Q (F0 m 0 ls [])
  refine lv_aload_n hx hb dX5_isQuiet_0 rfl (lv_at hl 0 rfl) ?_
  refine lv_aload_n hx hb dX5_isQuiet_1 rfl (lv_at hl 0 rfl) ?_
  refine lv_iload_n hx hb dX5_isQuiet_2 rfl (lv_at hl 1 rfl) ?_
  refine lv_iconst (v := 0) hx hb dX5_isQuiet_3 (by decide) ?_
  have hPc := hP.sub (ws' := [(h, .inr (6, [.ref g1, .ref g2, .int ka, .int ko, .ref g3, .ref g4])), (g1, .inl (E.2.1, 81, .inl f))]) [0, 1] rfl
  refine pc_i (va_runV (As := [.int p0, .int 0]) (rest := [.ref h]) ⟨hx, hb, hml, hown, hts⟩ (s_drift l E h g1 g2 g3 g4 k ka ko f p0 0 hk (by omega)) (cwV 2 hts g_s_isQuiet_s_drift_72 rfl rfl rfl (by decide +kernel) ⟨Nat.le_of_ble_eq_true rfl, Nat.le_of_ble_eq_true rfl⟩) ⟨pP.blind, va_recv hK hPc (ci := 6) (q0 := 0) rfl rfl, (pP.pre ⟨hK, hN⟩ hPc)⟩ rfl rfl hl.1 rfl (lv_room (Nat.le_of_ble_eq_true rfl)) dX5_isQuiet_4 ⟨Nat.le_of_ble_eq_true rfl, Nat.le_of_ble_eq_true rfl⟩) (fun r_1 hr_1 => ?_)
  refine lv_aload_n hx hb dX5_isQuiet_7 rfl (lv_at hl 0 rfl) ?_
  refine lv_iload_n hx hb dX5_isQuiet_8 rfl (lv_at hl 1 rfl) ?_
  refine lv_iconst (v := 1) hx hb dX5_isQuiet_9 (by decide) ?_
  have hPc := hP.sub (ws' := [(h, .inr (6, [.ref g1, .ref g2, .int ka, .int ko, .ref g3, .ref g4])), (g1, .inl (E.2.1, 81, .inl f))]) [0, 1] rfl
  refine pc_i (va_runV (As := [.int p0, .int 1]) (rest := [.int r_1, .ref h]) ⟨hx, hb, hml, hown, hts⟩ (s_drift l E h g1 g2 g3 g4 k ka ko f p0 1 hk (by omega)) (cwV 2 hts g_s_isQuiet_s_drift_72 rfl rfl rfl (by decide +kernel) ⟨Nat.le_of_ble_eq_true rfl, Nat.le_of_ble_eq_true rfl⟩) ⟨pP.blind, va_recv hK hPc (ci := 6) (q0 := 0) rfl rfl, (pP.pre ⟨hK, hN⟩ hPc)⟩ rfl rfl hl.1 rfl (lv_room (Nat.le_of_ble_eq_true rfl)) dX5_isQuiet_10 ⟨Nat.le_of_ble_eq_true rfl, Nat.le_of_ble_eq_true rfl⟩) (fun r_2 hr_2 => ?_)
  have hPc := hP.sub (ws' := [(h, .inr (6, [.ref g1, .ref g2, .int ka, .int ko, .ref g3, .ref g4])), (g1, .inl (E.2.1, 81, .inl f))]) [0, 1] rfl
  refine pc_i (va_runV (As := [.int r_1, .int r_2]) (rest := []) ⟨hx, hb, hml, hown, hts⟩ (s_isQuietDrift l E h g1 g2 g3 g4 k ka ko f r_1 r_2 hk (by omega)) (cwV 2 hts g_s_isQuiet_s_isQuietDrift_87 rfl rfl rfl (by decide +kernel) ⟨Nat.le_of_ble_eq_true rfl, Nat.le_of_ble_eq_true rfl⟩) ⟨pP.blind, va_recv hK hPc (ci := 6) (q0 := 0) rfl rfl, (pP.pre ⟨hK, hN⟩ hPc)⟩ rfl rfl hl.1 rfl (lv_room (Nat.le_of_ble_eq_true rfl)) dX5_isQuiet_13 ⟨Nat.le_of_ble_eq_true rfl, Nat.le_of_ble_eq_true rfl⟩) (fun r_3 hr_3 => ?_)
  rw [hQ]
  exact W.zret (v := r_3) hx hb hr (nar_bool hr_3) (fun tt ht hW => ⟨_, rfl, hr_3, ht⟩) (fun _ h => by cases h) dX5_isQuiet_16

def v_s_pointValue : List Cond := .code yX5_pointValue cX5_pointValue 4 (some .long) :: ([.fieldLink RX5 11 "HushWatch$State" "row" "[I", .methodLink RX5 91 yX5_point, .instanceMethod yX5_point, .selects RX5 yX5_point yX5_point, .initialized RX5, .methodLink RX5 75 yX5_valueOf, .instanceMethod yX5_valueOf, .selects RX5 yX5_valueOf yX5_valueOf] ++ (v_s_point ++ (wsX50 ++ (v_s_valueOf ++ ([])))))
theorem gw_s_pointValue : v_s_pointValue.all goodWord = true := by decide +kernel
theorem i_s_pointValue_X5 : ∀ w ∈ wsX50, w ∈ v_s_pointValue := fun _ h => List.mem_cons_of_mem _ (List.mem_append_right _ (List.mem_append_right _ (List.mem_append_left _ h)))
theorem g_s_pointValue_s_point_91 : GoodIn v_s_pointValue (wsV RX5 91 RX5 yX5_point v_s_point) := goodIn_app (goodIn_of _ (by decide +kernel)) (goodIn_sub (fun _ h => List.mem_cons_of_mem _ (List.mem_append_right _ (List.mem_append_left _ h))) gw_s_point)
theorem g_s_pointValue_s_valueOf_75 : GoodIn v_s_pointValue (wsV RX5 75 RX5 yX5_valueOf v_s_valueOf) := goodIn_app (goodIn_of _ (by decide +kernel)) (goodIn_sub (fun _ h => List.mem_cons_of_mem _ (List.mem_append_right _ (List.mem_append_right _ (List.mem_append_right _ (List.mem_append_left _ h))))) gw_s_valueOf)
set_option maxHeartbeats 4000000 in
set_option maxRecDepth 100000 in
theorem s_pointValue (l : Launch) (E : EE) (h g1 g2 g3 g4 k : Nat) (ka ko : Int32) (f : Nat → Int32) (p0 p1 p2 : Int32) (hk : f 3 = nI k) (hk8 : k ≤ 8) : Met l yX5_pointValue v_s_pointValue ({ frames := 2, cells := 0, slots := 0, locals := 45 }) (va_Pc [.ref h, .int p0, .int p1, .int p2] (pP E [(h, .inr (6, [.ref g1, .ref g2, .int ka, .int ko, .ref g3, .ref g4])), (g1, .inl (E.2.1, 81, .inl f))])) (vp_Sl (fun r : Int64 => True)) 0 0 (fun _ => False) := by
  refine Met.ofW (cc := cX5_pointValue) (maxL := 4) (ret := (some .long)) (by decide) rfl ?_
  intro p e s m args below meth c s₁ B hml hv
  obtain ⟨rfl, ⟨hK, hN⟩, hP⟩ := hv
  have hx := B.exec
  have hb := B.bytes
  have hr := B.returns
  have hts := atoms_spec (ws := v_s_pointValue) B.pre
  have hown : s.vm.findClass RX5 = some m.cls := findClass_of_methodNamed B.named
  have hlocks := B.notSynchronized
  have hP : va_P E.1 vwCl [(h, .inr (6, [.ref g1, .ref g2, .int ka, .int ko, .ref g3, .ref g4])), (g1, .inl (E.2.1, 81, .inl f))] s.heap := hP
  have hl := lv_entry ([.ref h, .int p0, .int p1, .int p2]) (n := 4) (Nat.le_of_ble_eq_true rfl)
  rw [lg_entry_eq]
  generalize (lg_sl ([.ref h, .int p0, .int p1, .int p2]) ++ List.replicate (4 - (lg_sl ([.ref h, .int p0, .int p1, .int p2])).length) Slot.unset).toArray = ls at hl ⊢
  have hl : lv_has ls 4 [(0, .ref h), (1, .int p0), (2, .int p1), (3, .int p2)] := hl
  obtain ⟨Q, hQ⟩ : ∃ Q : State → Prop, Q = MQ below (vp_Sl (fun r : Int64 => True)) #[Value.ref h, Value.int p0, Value.int p1, Value.int p2] s 0 0 (fun _ => False) := ⟨_, rfl⟩
  rw [← hQ]
  change W p l e ({ frames := 2, cells := 0, slots := 0, locals := 45 } : Room) s m #[Value.ref h, Value.int p0, Value.int p1, Value.int p2] below meth c s.heap [] 0 0 Q (F0 m 0 ls [])
  refine lv_aload_n hx hb dX5_pointValue_0 rfl (lv_at hl 0 rfl) ?_
  refine lv_aload_n hx hb dX5_pointValue_1 rfl (lv_at hl 0 rfl) ?_
  refine lv_iload_n hx hb dX5_pointValue_2 rfl (lv_at hl 1 rfl) ?_
  refine lv_iconst (v := 0) hx hb dX5_pointValue_3 (by decide) ?_
  have hPc := hP.sub (ws' := [(h, .inr (6, [.ref g1, .ref g2, .int ka, .int ko, .ref g3, .ref g4])), (g1, .inl (E.2.1, 81, .inl f))]) [0, 1] rfl
  refine pc_i (va_runV (As := [.int p0, .int 0]) (rest := [.ref h]) ⟨hx, hb, hml, hown, hts⟩ (s_point l E h g1 g2 g3 g4 k ka ko f p0 0 hk (by omega)) (cwV 2 hts g_s_pointValue_s_point_91 rfl rfl rfl (by decide +kernel) ⟨Nat.le_of_ble_eq_true rfl, Nat.le_of_ble_eq_true rfl⟩) ⟨pP.blind, va_recv hK hPc (ci := 6) (q0 := 0) rfl rfl, (pP.pre ⟨hK, hN⟩ hPc)⟩ rfl rfl hl.1 rfl (lv_room (Nat.le_of_ble_eq_true rfl)) dX5_pointValue_4 ⟨Nat.le_of_ble_eq_true rfl, Nat.le_of_ble_eq_true rfl⟩) (fun r_1 hr_1 => ?_)
  refine lv_aload_n hx hb dX5_pointValue_7 rfl (lv_at hl 0 rfl) ?_
  refine va_get (D := E.1) (ci := 6) (v := .ref g1) (C := RX5) (T := TX5) (N := 6) hx hb hts i_s_pointValue_X5 hown hK hP 0 rfl rfl 0 (by decide) (hts (.fieldLink RX5 11 "HushWatch$State" "row" "[I") (List.mem_of_getElem? (i := 1) rfl)) (fun _ h9 => h9) rfl dX5_pointValue_8 ?_
  refine lv_iconst (v := 3) hx hb dX5_pointValue_11 (by decide) ?_
  refine va_iald hx hb hK hP 1 0 rfl rfl (vin rfl) dX5_pointValue_12 ?_
  refine W.eq (g2 := F0 m 13 ls [.int (f 3), .int r_1, .ref h]) rfl ?_
  refine W.eq (g2 := F0 m 13 ls [.int (nI k), .int r_1, .ref h]) (by rw [hk]) ?_
  refine lv_iload_n hx hb dX5_pointValue_13 rfl (lv_at hl 2 rfl) ?_
  refine lv_imul hx hb dX5_pointValue_14 ?_
  refine lv_topi (fun z_2 ez_2 => ?_)
  refine lv_iadd hx hb dX5_pointValue_15 ?_
  refine lv_topi (fun z_3 ez_3 => ?_)
  refine lv_i2l (v := z_3.toInt64) hx hb dX5_pointValue_16 rfl ?_
  refine lv_aload_n hx hb dX5_pointValue_17 rfl (lv_at hl 0 rfl) ?_
  refine lv_iload_n hx hb dX5_pointValue_18 rfl (lv_at hl 1 rfl) ?_
  refine lv_iconst (v := 1) hx hb dX5_pointValue_19 (by decide) ?_
  have hPc := hP.sub (ws' := [(h, .inr (6, [.ref g1, .ref g2, .int ka, .int ko, .ref g3, .ref g4])), (g1, .inl (E.2.1, 81, .inl f))]) [0, 1] rfl
  refine pc_i (va_runV (As := [.int p0, .int 1]) (rest := [.long z_3.toInt64, .ref h]) ⟨hx, hb, hml, hown, hts⟩ (s_point l E h g1 g2 g3 g4 k ka ko f p0 1 hk (by omega)) (cwV 2 hts g_s_pointValue_s_point_91 rfl rfl rfl (by decide +kernel) ⟨Nat.le_of_ble_eq_true rfl, Nat.le_of_ble_eq_true rfl⟩) ⟨pP.blind, va_recv hK hPc (ci := 6) (q0 := 0) rfl rfl, (pP.pre ⟨hK, hN⟩ hPc)⟩ rfl rfl hl.1 rfl (lv_room (Nat.le_of_ble_eq_true rfl)) dX5_pointValue_20 ⟨Nat.le_of_ble_eq_true rfl, Nat.le_of_ble_eq_true rfl⟩) (fun r_4 hr_4 => ?_)
  refine lv_aload_n hx hb dX5_pointValue_23 rfl (lv_at hl 0 rfl) ?_
  refine va_get (D := E.1) (ci := 6) (v := .ref g1) (C := RX5) (T := TX5) (N := 6) hx hb hts i_s_pointValue_X5 hown hK hP 0 rfl rfl 0 (by decide) (hts (.fieldLink RX5 11 "HushWatch$State" "row" "[I") (List.mem_of_getElem? (i := 1) rfl)) (fun _ h9 => h9) rfl dX5_pointValue_24 ?_
  refine lv_iconst (v := 3) hx hb dX5_pointValue_27 (by decide) ?_
  refine va_iald hx hb hK hP 1 0 rfl rfl (vin rfl) dX5_pointValue_28 ?_
  refine W.eq (g2 := F0 m 29 ls [.int (f 3), .int r_4, .long z_3.toInt64, .ref h]) rfl ?_
  refine W.eq (g2 := F0 m 29 ls [.int (nI k), .int r_4, .long z_3.toInt64, .ref h]) (by rw [hk]) ?_
  refine lv_iload_n hx hb dX5_pointValue_29 rfl (lv_at hl 3 rfl) ?_
  refine lv_imul hx hb dX5_pointValue_30 ?_
  refine lv_topi (fun z_5 ez_5 => ?_)
  refine lv_iadd hx hb dX5_pointValue_31 ?_
  refine lv_topi (fun z_6 ez_6 => ?_)
  refine lv_i2l (v := z_6.toInt64) hx hb dX5_pointValue_32 rfl ?_
  have hPc := hP.sub (ws' := [(h, .inr (6, [.ref g1, .ref g2, .int ka, .int ko, .ref g3, .ref g4])), (g1, .inl (E.2.1, 81, .inl f))]) [0, 1] rfl
  refine pc_l (va_runV (As := [.long z_3.toInt64, .long z_6.toInt64]) (rest := []) ⟨hx, hb, hml, hown, hts⟩ (s_valueOf l E h g1 g2 g3 g4 k ka ko f z_3.toInt64 z_6.toInt64 hk (by omega)) (cwV 2 hts g_s_pointValue_s_valueOf_75 rfl rfl rfl (by decide +kernel) ⟨Nat.le_of_ble_eq_true rfl, Nat.le_of_ble_eq_true rfl⟩) ⟨pP.blind, va_recv hK hPc (ci := 6) (q0 := 0) rfl rfl, (pP.pre ⟨hK, hN⟩ hPc)⟩ rfl rfl hl.1 rfl (lv_room (Nat.le_of_ble_eq_true rfl)) dX5_pointValue_33 ⟨Nat.le_of_ble_eq_true rfl, Nat.le_of_ble_eq_true rfl⟩) (fun r_7 hr_7 => ?_)
  rw [hQ]
  exact W.lret (v := r_7) hx hb hr (fun tt ht hW => ⟨_, rfl, trivial, ht⟩) (fun _ h => by cases h) dX5_pointValue_36

def v_s_slackLength : List Cond := .code yX5_slackLength cX5_slackLength 2 (some .int) :: ([.methodLink RX5 94 Lib.Math.abs.name, .static Lib.Math.abs.name, .initialized "java/lang/Math", .code Lib.Math.abs.name Lib.Math.abs.code 1 (some .int), .methodLink RX5 69 yX5_of, .instanceMethod yX5_of, .selects RX5 yX5_of yX5_of, .initialized RX5] ++ (v_s_of ++ ([])))
theorem gw_s_slackLength : v_s_slackLength.all goodWord = true := by decide +kernel
theorem g_s_slackLength_s_of_69 : GoodIn v_s_slackLength (wsV RX5 69 RX5 yX5_of v_s_of) := goodIn_app (goodIn_of _ (by decide +kernel)) (goodIn_sub (fun _ h => List.mem_cons_of_mem _ (List.mem_append_right _ (List.mem_append_left _ h))) gw_s_of)
set_option maxHeartbeats 4000000 in
set_option maxRecDepth 100000 in
theorem s_slackLength (l : Launch) (E : EE) (h g1 g2 g3 g4 k : Nat) (ka ko : Int32) (f : Nat → Int32) (p0 : Int32) (hk : f 3 = nI k) (hk8 : k ≤ 8) : Met l yX5_slackLength v_s_slackLength ({ frames := 1, cells := 0, slots := 0, locals := 22 }) (va_Pc [.ref h, .int p0] (pP E [(h, .inr (6, [.ref g1, .ref g2, .int ka, .int ko, .ref g3, .ref g4])), (g1, .inl (E.2.1, 81, .inl f))])) (vp_Si (fun r : Int32 => True)) 0 0 (fun _ => False) := by
  refine Met.ofW (cc := cX5_slackLength) (maxL := 2) (ret := (some .int)) (by decide) rfl ?_
  intro p e s m args below meth c s₁ B hml hv
  obtain ⟨rfl, ⟨hK, hN⟩, hP⟩ := hv
  have hx := B.exec
  have hb := B.bytes
  have hr := B.returns
  have hts := atoms_spec (ws := v_s_slackLength) B.pre
  have hown : s.vm.findClass RX5 = some m.cls := findClass_of_methodNamed B.named
  have hlocks := B.notSynchronized
  have hP : va_P E.1 vwCl [(h, .inr (6, [.ref g1, .ref g2, .int ka, .int ko, .ref g3, .ref g4])), (g1, .inl (E.2.1, 81, .inl f))] s.heap := hP
  have hl := lv_entry ([.ref h, .int p0]) (n := 2) (Nat.le_of_ble_eq_true rfl)
  rw [lg_entry_eq]
  generalize (lg_sl ([.ref h, .int p0]) ++ List.replicate (2 - (lg_sl ([.ref h, .int p0])).length) Slot.unset).toArray = ls at hl ⊢
  have hl : lv_has ls 2 [(0, .ref h), (1, .int p0)] := hl
  obtain ⟨Q, hQ⟩ : ∃ Q : State → Prop, Q = MQ below (vp_Si (fun r : Int32 => True)) #[Value.ref h, Value.int p0] s 0 0 (fun _ => False) := ⟨_, rfl⟩
  rw [← hQ]
  change W p l e ({ frames := 1, cells := 0, slots := 0, locals := 22 } : Room) s m #[Value.ref h, Value.int p0] below meth c s.heap [] 0 0 Q (F0 m 0 ls [])
  refine lv_aload_n hx hb dX5_slackLength_0 rfl (lv_at hl 0 rfl) ?_
  refine lv_iload_n hx hb dX5_slackLength_1 rfl (lv_at hl 1 rfl) ?_
  refine lv_iconst (v := 4) hx hb dX5_slackLength_2 (by decide) ?_
  have hPc := hP.sub (ws' := [(h, .inr (6, [.ref g1, .ref g2, .int ka, .int ko, .ref g3, .ref g4])), (g1, .inl (E.2.1, 81, .inl f))]) [0, 1] rfl
  refine pc_i (va_runV (As := [.int p0, .int 4]) (rest := []) ⟨hx, hb, hml, hown, hts⟩ (s_of l E h g1 g2 g3 g4 k ka ko f p0 4 hk (by omega)) (cwV 2 hts g_s_slackLength_s_of_69 rfl rfl rfl (by decide +kernel) ⟨Nat.le_of_ble_eq_true rfl, Nat.le_of_ble_eq_true rfl⟩) ⟨pP.blind, va_recv hK hPc (ci := 6) (q0 := 0) rfl rfl, (pP.pre ⟨hK, hN⟩ hPc)⟩ rfl rfl hl.1 rfl (lv_room (Nat.le_of_ble_eq_true rfl)) dX5_slackLength_3 ⟨Nat.le_of_ble_eq_true rfl, Nat.le_of_ble_eq_true rfl⟩) (fun r_1 hr_1 => ?_)
  refine va_mabs hx hb (hml.trans hl.1.symm) hown (hts (.methodLink RX5 94 Lib.Math.abs.name) (List.mem_of_getElem? (i := 1) rfl)) (hts (.static Lib.Math.abs.name) (List.mem_of_getElem? (i := 2) rfl)) (hts (.initialized "java/lang/Math") (List.mem_of_getElem? (i := 3) rfl)) (hts (.code Lib.Math.abs.name Lib.Math.abs.code 1 (some .int)) (List.mem_of_getElem? (i := 4) rfl)) (Nat.le_of_ble_eq_true rfl) (Nat.le_of_ble_eq_true rfl) (Nat.le_of_ble_eq_true rfl) (Nat.le_of_ble_eq_true rfl) dX5_slackLength_6 ?_
  refine lv_topi (fun z_2 ez_2 => ?_)
  refine lv_aload_n hx hb dX5_slackLength_9 rfl (lv_at hl 0 rfl) ?_
  refine lv_iload_n hx hb dX5_slackLength_10 rfl (lv_at hl 1 rfl) ?_
  refine lv_iconst (v := 5) hx hb dX5_slackLength_11 (by decide) ?_
  have hPc := hP.sub (ws' := [(h, .inr (6, [.ref g1, .ref g2, .int ka, .int ko, .ref g3, .ref g4])), (g1, .inl (E.2.1, 81, .inl f))]) [0, 1] rfl
  refine pc_i (va_runV (As := [.int p0, .int 5]) (rest := [.int z_2]) ⟨hx, hb, hml, hown, hts⟩ (s_of l E h g1 g2 g3 g4 k ka ko f p0 5 hk (by omega)) (cwV 2 hts g_s_slackLength_s_of_69 rfl rfl rfl (by decide +kernel) ⟨Nat.le_of_ble_eq_true rfl, Nat.le_of_ble_eq_true rfl⟩) ⟨pP.blind, va_recv hK hPc (ci := 6) (q0 := 0) rfl rfl, (pP.pre ⟨hK, hN⟩ hPc)⟩ rfl rfl hl.1 rfl (lv_room (Nat.le_of_ble_eq_true rfl)) dX5_slackLength_12 ⟨Nat.le_of_ble_eq_true rfl, Nat.le_of_ble_eq_true rfl⟩) (fun r_3 hr_3 => ?_)
  refine va_mabs hx hb (hml.trans hl.1.symm) hown (hts (.methodLink RX5 94 Lib.Math.abs.name) (List.mem_of_getElem? (i := 1) rfl)) (hts (.static Lib.Math.abs.name) (List.mem_of_getElem? (i := 2) rfl)) (hts (.initialized "java/lang/Math") (List.mem_of_getElem? (i := 3) rfl)) (hts (.code Lib.Math.abs.name Lib.Math.abs.code 1 (some .int)) (List.mem_of_getElem? (i := 4) rfl)) (Nat.le_of_ble_eq_true rfl) (Nat.le_of_ble_eq_true rfl) (Nat.le_of_ble_eq_true rfl) (Nat.le_of_ble_eq_true rfl) dX5_slackLength_15 ?_
  refine lv_topi (fun z_4 ez_4 => ?_)
  refine lv_iadd hx hb dX5_slackLength_18 ?_
  refine lv_topi (fun z_5 ez_5 => ?_)
  rw [hQ]
  exact W.iret (v := z_5) hx hb hr (fun tt ht hW => ⟨_, rfl, trivial, ht⟩) (fun _ h => by cases h) dX5_slackLength_19

def v_s_hasRoom : List Cond := .code yX5_hasRoom cX5_hasRoom 4 (some .boolean) :: ([.methodLink RX5 94 Lib.Math.abs.name, .static Lib.Math.abs.name, .initialized "java/lang/Math", .code Lib.Math.abs.name Lib.Math.abs.code 1 (some .int), .constant RX5 98 (99999), .methodLink RX5 69 yX5_of, .instanceMethod yX5_of, .selects RX5 yX5_of yX5_of, .initialized RX5] ++ (v_s_of ++ ([])))
theorem gw_s_hasRoom : v_s_hasRoom.all goodWord = true := by decide +kernel
theorem g_s_hasRoom_s_of_69 : GoodIn v_s_hasRoom (wsV RX5 69 RX5 yX5_of v_s_of) := goodIn_app (goodIn_of _ (by decide +kernel)) (goodIn_sub (fun _ h => List.mem_cons_of_mem _ (List.mem_append_right _ (List.mem_append_left _ h))) gw_s_of)
set_option maxHeartbeats 4000000 in
set_option maxRecDepth 100000 in
theorem s_hasRoom (l : Launch) (E : EE) (h g1 g2 g3 g4 k : Nat) (ka ko : Int32) (f : Nat → Int32) (p0 p1 p2 : Int32) (hk : f 3 = nI k) (hk8 : k ≤ 8) : Met l yX5_hasRoom v_s_hasRoom ({ frames := 1, cells := 0, slots := 0, locals := 22 }) (va_Pc [.ref h, .int p0, .int p1, .int p2] (pP E [(h, .inr (6, [.ref g1, .ref g2, .int ka, .int ko, .ref g3, .ref g4])), (g1, .inl (E.2.1, 81, .inl f))])) (vp_Si (fun r : Int32 => r = 0 ∨ r = 1)) 0 0 (fun _ => False) := by
  refine Met.ofW (cc := cX5_hasRoom) (maxL := 4) (ret := (some .boolean)) (by decide) rfl ?_
  intro p e s m args below meth c s₁ B hml hv
  obtain ⟨rfl, ⟨hK, hN⟩, hP⟩ := hv
  have hx := B.exec
  have hb := B.bytes
  have hr := B.returns
  have hts := atoms_spec (ws := v_s_hasRoom) B.pre
  have hown : s.vm.findClass RX5 = some m.cls := findClass_of_methodNamed B.named
  have hlocks := B.notSynchronized
  have hP : va_P E.1 vwCl [(h, .inr (6, [.ref g1, .ref g2, .int ka, .int ko, .ref g3, .ref g4])), (g1, .inl (E.2.1, 81, .inl f))] s.heap := hP
  have hl := lv_entry ([.ref h, .int p0, .int p1, .int p2]) (n := 4) (Nat.le_of_ble_eq_true rfl)
  rw [lg_entry_eq]
  generalize (lg_sl ([.ref h, .int p0, .int p1, .int p2]) ++ List.replicate (4 - (lg_sl ([.ref h, .int p0, .int p1, .int p2])).length) Slot.unset).toArray = ls at hl ⊢
  have hl : lv_has ls 4 [(0, .ref h), (1, .int p0), (2, .int p1), (3, .int p2)] := hl
  obtain ⟨Q, hQ⟩ : ∃ Q : State → Prop, Q = MQ below (vp_Si (fun r : Int32 => r = 0 ∨ r = 1)) #[Value.ref h, Value.int p0, Value.int p1, Value.int p2] s 0 0 (fun _ => False) := ⟨_, rfl⟩
  rw [← hQ]
  change W p l e ({ frames := 1, cells := 0, slots := 0, locals := 22 } : Room) s m #[Value.ref h, Value.int p0, Value.int p1, Value.int p2] below meth c s.heap [] 0 0 Q (F0 m 0 ls [])
  refine lv_aload_n hx hb dX5_hasRoom_0 rfl (lv_at hl 0 rfl) ?_
  refine lv_iload_n hx hb dX5_hasRoom_1 rfl (lv_at hl 1 rfl) ?_
  refine lv_iconst (v := 0) hx hb dX5_hasRoom_2 (by decide) ?_
  have hPc := hP.sub (ws' := [(h, .inr (6, [.ref g1, .ref g2, .int ka, .int ko, .ref g3, .ref g4])), (g1, .inl (E.2.1, 81, .inl f))]) [0, 1] rfl
  refine pc_i (va_runV (As := [.int p0, .int 0]) (rest := []) ⟨hx, hb, hml, hown, hts⟩ (s_of l E h g1 g2 g3 g4 k ka ko f p0 0 hk (by omega)) (cwV 2 hts g_s_hasRoom_s_of_69 rfl rfl rfl (by decide +kernel) ⟨Nat.le_of_ble_eq_true rfl, Nat.le_of_ble_eq_true rfl⟩) ⟨pP.blind, va_recv hK hPc (ci := 6) (q0 := 0) rfl rfl, (pP.pre ⟨hK, hN⟩ hPc)⟩ rfl rfl hl.1 rfl (lv_room (Nat.le_of_ble_eq_true rfl)) dX5_hasRoom_3 ⟨Nat.le_of_ble_eq_true rfl, Nat.le_of_ble_eq_true rfl⟩) (fun r_1 hr_1 => ?_)
  refine lv_iload_n hx hb dX5_hasRoom_6 rfl (lv_at hl 2 rfl) ?_
  refine lv_iadd hx hb dX5_hasRoom_7 ?_
  refine lv_topi (fun z_2 ez_2 => ?_)
  refine va_mabs hx hb (hml.trans hl.1.symm) hown (hts (.methodLink RX5 94 Lib.Math.abs.name) (List.mem_of_getElem? (i := 1) rfl)) (hts (.static Lib.Math.abs.name) (List.mem_of_getElem? (i := 2) rfl)) (hts (.initialized "java/lang/Math") (List.mem_of_getElem? (i := 3) rfl)) (hts (.code Lib.Math.abs.name Lib.Math.abs.code 1 (some .int)) (List.mem_of_getElem? (i := 4) rfl)) (Nat.le_of_ble_eq_true rfl) (Nat.le_of_ble_eq_true rfl) (Nat.le_of_ble_eq_true rfl) (Nat.le_of_ble_eq_true rfl) dX5_hasRoom_8 ?_
  refine lv_topi (fun z_3 ez_3 => ?_)
  refine lv_ldc (v := 99999) hx hb hown (hts (.constant RX5 98 (99999)) (List.mem_of_getElem? (i := 5) rfl)) dX5_hasRoom_11 ?_
  have K_12 : ∀ (y_11 : Nat), ∀ (ls : Array Slot), y_11 ≤ 1 → lv_has ls 4 [(0, .ref h), (1, .int p0), (2, .int p1), (3, .int p2)] → W p l e ({ frames := 1, cells := 0, slots := 0, locals := 22 } : Room) s m #[Value.ref h, Value.int p0, Value.int p1, Value.int p2] below meth c s.heap [] 0 0 Q (F0 m 37 ls [.int (nI y_11)]) := by
    intro y_11 ls hy_11 hl
    rw [hQ]
    exact W.zret (v := nI y_11) hx hb hr (nar_nat (by omega)) (fun tt ht hW => ⟨_, rfl, nat_bool (by omega), ht⟩) (fun _ h => by cases h) dX5_hasRoom_37
  refine lv_icmp_gt (tgt := 36) hx hb dX5_hasRoom_13 (by decide) (fun c_4 => ?_) (fun c_4 => ?_)
  ·
    refine lv_iconst (v := 0) hx hb dX5_hasRoom_36 (by decide) ?_
    exact K_12 0 ls (by omega) (lv_sub hl [0, 1, 2, 3] rfl)
  ·
    refine lv_aload_n hx hb dX5_hasRoom_16 rfl (lv_at hl 0 rfl) ?_
    refine lv_iload_n hx hb dX5_hasRoom_17 rfl (lv_at hl 1 rfl) ?_
    refine lv_iconst (v := 1) hx hb dX5_hasRoom_18 (by decide) ?_
    have hPc := hP.sub (ws' := [(h, .inr (6, [.ref g1, .ref g2, .int ka, .int ko, .ref g3, .ref g4])), (g1, .inl (E.2.1, 81, .inl f))]) [0, 1] rfl
    refine pc_i (va_runV (As := [.int p0, .int 1]) (rest := []) ⟨hx, hb, hml, hown, hts⟩ (s_of l E h g1 g2 g3 g4 k ka ko f p0 1 hk (by omega)) (cwV 2 hts g_s_hasRoom_s_of_69 rfl rfl rfl (by decide +kernel) ⟨Nat.le_of_ble_eq_true rfl, Nat.le_of_ble_eq_true rfl⟩) ⟨pP.blind, va_recv hK hPc (ci := 6) (q0 := 0) rfl rfl, (pP.pre ⟨hK, hN⟩ hPc)⟩ rfl rfl hl.1 rfl (lv_room (Nat.le_of_ble_eq_true rfl)) dX5_hasRoom_19 ⟨Nat.le_of_ble_eq_true rfl, Nat.le_of_ble_eq_true rfl⟩) (fun r_13 hr_13 => ?_)
    refine lv_iload_n hx hb dX5_hasRoom_22 rfl (lv_at hl 3 rfl) ?_
    refine lv_iadd hx hb dX5_hasRoom_23 ?_
    refine lv_topi (fun z_14 ez_14 => ?_)
    refine va_mabs hx hb (hml.trans hl.1.symm) hown (hts (.methodLink RX5 94 Lib.Math.abs.name) (List.mem_of_getElem? (i := 1) rfl)) (hts (.static Lib.Math.abs.name) (List.mem_of_getElem? (i := 2) rfl)) (hts (.initialized "java/lang/Math") (List.mem_of_getElem? (i := 3) rfl)) (hts (.code Lib.Math.abs.name Lib.Math.abs.code 1 (some .int)) (List.mem_of_getElem? (i := 4) rfl)) (Nat.le_of_ble_eq_true rfl) (Nat.le_of_ble_eq_true rfl) (Nat.le_of_ble_eq_true rfl) (Nat.le_of_ble_eq_true rfl) dX5_hasRoom_24 ?_
    refine lv_topi (fun z_15 ez_15 => ?_)
    refine lv_ldc (v := 99999) hx hb hown (hts (.constant RX5 98 (99999)) (List.mem_of_getElem? (i := 5) rfl)) dX5_hasRoom_27 ?_
    have K_18 : ∀ (y_17 : Nat), ∀ (ls : Array Slot), y_17 ≤ 1 → lv_has ls 4 [(0, .ref h), (1, .int p0), (2, .int p1), (3, .int p2)] → W p l e ({ frames := 1, cells := 0, slots := 0, locals := 22 } : Room) s m #[Value.ref h, Value.int p0, Value.int p1, Value.int p2] below meth c s.heap [] 0 0 Q (F0 m 37 ls [.int (nI y_17)]) := by
      intro y_17 ls hy_17 hl
      exact K_12 y_17 ls (by omega) (lv_sub hl [0, 1, 2, 3] rfl)
    refine lv_icmp_gt (tgt := 36) hx hb dX5_hasRoom_29 (by decide) (fun c_16 => ?_) (fun c_16 => ?_)
    ·
      refine lv_iconst (v := 0) hx hb dX5_hasRoom_36 (by decide) ?_
      exact K_18 0 ls (by omega) (lv_sub hl [0, 1, 2, 3] rfl)
    ·
      refine lv_iconst (v := 1) hx hb dX5_hasRoom_32 (by decide) ?_
      refine lv_goto (tgt := 37) hx hb dX5_hasRoom_33 (by decide) ?_
      exact K_18 1 ls (by omega) (lv_sub hl [0, 1, 2, 3] rfl)
