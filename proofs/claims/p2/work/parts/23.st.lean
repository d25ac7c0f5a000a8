theorem dX5_shift_0 : decode cX5_shift 0 = .ok (.aload_n 0, 1) := by decide +kernel
theorem dX5_shift_1 : decode cX5_shift 1 = .ok (.iload_n 1, 1) := by decide +kernel
theorem dX5_shift_2 : decode cX5_shift 2 = .ok (.iconst 0, 1) := by decide +kernel
theorem dX5_shift_3 : decode cX5_shift 3 = .ok (.aload_n 0, 1) := by decide +kernel
theorem dX5_shift_4 : decode cX5_shift 4 = .ok (.iload_n 1, 1) := by decide +kernel
theorem dX5_shift_5 : decode cX5_shift 5 = .ok (.iconst 0, 1) := by decide +kernel
theorem dX5_shift_6 : decode cX5_shift 6 = .ok (.invokevirtual 69, 3) := by decide +kernel
theorem dX5_shift_9 : decode cX5_shift 9 = .ok (.iload_n 2, 1) := by decide +kernel
theorem dX5_shift_10 : decode cX5_shift 10 = .ok (.iadd, 1) := by decide +kernel
theorem dX5_shift_11 : decode cX5_shift 11 = .ok (.invokevirtual 52, 3) := by decide +kernel
theorem dX5_shift_14 : decode cX5_shift 14 = .ok (.aload_n 0, 1) := by decide +kernel
theorem dX5_shift_15 : decode cX5_shift 15 = .ok (.iload_n 1, 1) := by decide +kernel
theorem dX5_shift_16 : decode cX5_shift 16 = .ok (.iconst 1, 1) := by decide +kernel
theorem dX5_shift_17 : decode cX5_shift 17 = .ok (.aload_n 0, 1) := by decide +kernel
theorem dX5_shift_18 : decode cX5_shift 18 = .ok (.iload_n 1, 1) := by decide +kernel
theorem dX5_shift_19 : decode cX5_shift 19 = .ok (.iconst 1, 1) := by decide +kernel
theorem dX5_shift_20 : decode cX5_shift 20 = .ok (.invokevirtual 69, 3) := by decide +kernel
theorem dX5_shift_23 : decode cX5_shift 23 = .ok (.iload_n 3, 1) := by decide +kernel
theorem dX5_shift_24 : decode cX5_shift 24 = .ok (.iadd, 1) := by decide +kernel
theorem dX5_shift_25 : decode cX5_shift 25 = .ok (.invokevirtual 52, 3) := by decide +kernel
theorem dX5_shift_28 : decode cX5_shift 28 = .ok (.return_, 1) := by decide +kernel
theorem dX5_hearPlaces_16 : decode cX5_hearPlaces 16 = .ok (.iload_n 1, 1) := by decide +kernel
theorem dX5_hearPlaces_17 : decode cX5_hearPlaces 17 = .ok (.aload_n 0, 1) := by decide +kernel
theorem dX5_hearPlaces_18 : decode cX5_hearPlaces 18 = .ok (.invokevirtual 45, 3) := by decide +kernel
theorem dX5_hearPlaces_21 : decode cX5_hearPlaces 21 = .ok (.if_icmp .ge 77, 3) := by decide +kernel
theorem dX5_hearPlaces_24 : decode cX5_hearPlaces 24 = .ok (.aload_n 0, 1) := by decide +kernel
theorem dX5_hearPlaces_25 : decode cX5_hearPlaces 25 = .ok (.iload_n 1, 1) := by decide +kernel
theorem dX5_hearPlaces_26 : decode cX5_hearPlaces 26 = .ok (.iconst 2, 1) := by decide +kernel
theorem dX5_hearPlaces_27 : decode cX5_hearPlaces 27 = .ok (.aload_n 0, 1) := by decide +kernel
theorem dX5_hearPlaces_28 : decode cX5_hearPlaces 28 = .ok (.iload_n 1, 1) := by decide +kernel
theorem dX5_hearPlaces_29 : decode cX5_hearPlaces 29 = .ok (.iconst 0, 1) := by decide +kernel
theorem dX5_hearPlaces_30 : decode cX5_hearPlaces 30 = .ok (.invokevirtual 69, 3) := by decide +kernel
theorem dX5_hearPlaces_33 : decode cX5_hearPlaces 33 = .ok (.invokevirtual 52, 3) := by decide +kernel
theorem dX5_hearPlaces_36 : decode cX5_hearPlaces 36 = .ok (.aload_n 0, 1) := by decide +kernel
theorem dX5_hearPlaces_37 : decode cX5_hearPlaces 37 = .ok (.iload_n 1, 1) := by decide +kernel
theorem dX5_hearPlaces_38 : decode cX5_hearPlaces 38 = .ok (.iconst 3, 1) := by decide +kernel
theorem dX5_hearPlaces_39 : decode cX5_hearPlaces 39 = .ok (.aload_n 0, 1) := by decide +kernel
theorem dX5_hearPlaces_40 : decode cX5_hearPlaces 40 = .ok (.iload_n 1, 1) := by decide +kernel
theorem dX5_hearPlaces_41 : decode cX5_hearPlaces 41 = .ok (.iconst 1, 1) := by decide +kernel
theorem dX5_hearPlaces_42 : decode cX5_hearPlaces 42 = .ok (.invokevirtual 69, 3) := by decide +kernel
theorem dX5_hearPlaces_45 : decode cX5_hearPlaces 45 = .ok (.invokevirtual 52, 3) := by decide +kernel
theorem dX5_hearPlaces_48 : decode cX5_hearPlaces 48 = .ok (.aload_n 0, 1) := by decide +kernel
theorem dX5_hearPlaces_49 : decode cX5_hearPlaces 49 = .ok (.iload_n 1, 1) := by decide +kernel
theorem dX5_hearPlaces_50 : decode cX5_hearPlaces 50 = .ok (.iconst 4, 1) := by decide +kernel
theorem dX5_hearPlaces_51 : decode cX5_hearPlaces 51 = .ok (.iconst 0, 1) := by decide +kernel
theorem dX5_hearPlaces_52 : decode cX5_hearPlaces 52 = .ok (.invokevirtual 52, 3) := by decide +kernel
theorem dX5_hearPlaces_55 : decode cX5_hearPlaces 55 = .ok (.aload_n 0, 1) := by decide +kernel
theorem dX5_hearPlaces_56 : decode cX5_hearPlaces 56 = .ok (.iload_n 1, 1) := by decide +kernel
theorem dX5_hearPlaces_57 : decode cX5_hearPlaces 57 = .ok (.iconst 5, 1) := by decide +kernel
theorem dX5_hearPlaces_58 : decode cX5_hearPlaces 58 = .ok (.iconst 0, 1) := by decide +kernel
theorem dX5_hearPlaces_59 : decode cX5_hearPlaces 59 = .ok (.invokevirtual 52, 3) := by decide +kernel
theorem dX5_hearPlaces_62 : decode cX5_hearPlaces 62 = .ok (.aload_n 0, 1) := by decide +kernel
theorem dX5_hearPlaces_63 : decode cX5_hearPlaces 63 = .ok (.getfield 11, 3) := by decide +kernel
theorem dX5_hearPlaces_66 : decode cX5_hearPlaces 66 = .ok (.iconst 4, 1) := by decide +kernel
theorem dX5_hearPlaces_67 : decode cX5_hearPlaces 67 = .ok (.dup2, 1) := by decide +kernel
theorem dX5_hearPlaces_68 : decode cX5_hearPlaces 68 = .ok (.iaload, 1) := by decide +kernel
theorem dX5_hearPlaces_69 : decode cX5_hearPlaces 69 = .ok (.aload_n 0, 1) := by decide +kernel
theorem dX5_hearPlaces_70 : decode cX5_hearPlaces 70 = .ok (.iload_n 1, 1) := by decide +kernel
theorem dX5_hearPlaces_71 : decode cX5_hearPlaces 71 = .ok (.iconst 0, 1) := by decide +kernel
theorem dX5_hearPlaces_72 : decode cX5_hearPlaces 72 = .ok (.invokevirtual 69, 3) := by decide +kernel
theorem dX5_hearPlaces_75 : decode cX5_hearPlaces 75 = .ok (.iadd, 1) := by decide +kernel
theorem dX5_hearPlaces_76 : decode cX5_hearPlaces 76 = .ok (.iastore, 1) := by decide +kernel
theorem dX5_hearPlaces_77 : decode cX5_hearPlaces 77 = .ok (.aload_n 0, 1) := by decide +kernel
theorem dX5_hearPlaces_78 : decode cX5_hearPlaces 78 = .ok (.getfield 11, 3) := by decide +kernel
theorem dX5_hearPlaces_81 : decode cX5_hearPlaces 81 = .ok (.iconst 5, 1) := by decide +kernel
theorem dX5_hearPlaces_82 : decode cX5_hearPlaces 82 = .ok (.dup2, 1) := by decide +kernel
theorem dX5_hearPlaces_83 : decode cX5_hearPlaces 83 = .ok (.iaload, 1) := by decide +kernel
theorem dX5_hearPlaces_84 : decode cX5_hearPlaces 84 = .ok (.aload_n 0, 1) := by decide +kernel
theorem dX5_hearPlaces_85 : decode cX5_hearPlaces 85 = .ok (.iload_n 1, 1) := by decide +kernel
theorem dX5_hearPlaces_86 : decode cX5_hearPlaces 86 = .ok (.iconst 1, 1) := by decide +kernel
theorem dX5_hearPlaces_87 : decode cX5_hearPlaces 87 = .ok (.invokevirtual 69, 3) := by decide +kernel
theorem dX5_hearPlaces_90 : decode cX5_hearPlaces 90 = .ok (.iadd, 1) := by decide +kernel
theorem dX5_hearPlaces_91 : decode cX5_hearPlaces 91 = .ok (.iastore, 1) := by decide +kernel
theorem dX5_hearPlaces_92 : decode cX5_hearPlaces 92 = .ok (.iinc 1 1, 3) := by decide +kernel
theorem dX5_hearPlaces_95 : decode cX5_hearPlaces 95 = .ok (.goto (-79), 3) := by decide +kernel
theorem dX5_hearPlaces_0 : decode cX5_hearPlaces 0 = .ok (.aload_n 0, 1) := by decide +kernel
theorem dX5_hearPlaces_1 : decode cX5_hearPlaces 1 = .ok (.getfield 11, 3) := by decide +kernel
theorem dX5_hearPlaces_4 : decode cX5_hearPlaces 4 = .ok (.iconst 4, 1) := by decide +kernel
theorem dX5_hearPlaces_5 : decode cX5_hearPlaces 5 = .ok (.iconst 0, 1) := by decide +kernel
theorem dX5_hearPlaces_6 : decode cX5_hearPlaces 6 = .ok (.iastore, 1) := by decide +kernel
theorem dX5_hearPlaces_7 : decode cX5_hearPlaces 7 = .ok (.aload_n 0, 1) := by decide +kernel
theorem dX5_hearPlaces_8 : decode cX5_hearPlaces 8 = .ok (.getfield 11, 3) := by decide +kernel
theorem dX5_hearPlaces_11 : decode cX5_hearPlaces 11 = .ok (.iconst 5, 1) := by decide +kernel
theorem dX5_hearPlaces_12 : decode cX5_hearPlaces 12 = .ok (.iconst 0, 1) := by decide +kernel
theorem dX5_hearPlaces_13 : decode cX5_hearPlaces 13 = .ok (.iastore, 1) := by decide +kernel
theorem dX5_hearPlaces_14 : decode cX5_hearPlaces 14 = .ok (.iconst 0, 1) := by decide +kernel
theorem dX5_hearPlaces_15 : decode cX5_hearPlaces 15 = .ok (.istore_n 1, 1) := by decide +kernel
theorem dX5_hearPlaces_98 : decode cX5_hearPlaces 98 = .ok (.return_, 1) := by decide +kernel
theorem dX5_hearAll_0 : decode cX5_hearAll 0 = .ok (.aload_n 0, 1) := by decide +kernel
theorem dX5_hearAll_1 : decode cX5_hearAll 1 = .ok (.invokevirtual 56, 3) := by decide +kernel
theorem dX5_hearAll_4 : decode cX5_hearAll 4 = .ok (.aload_n 0, 1) := by decide +kernel
theorem dX5_hearAll_5 : decode cX5_hearAll 5 = .ok (.getfield 11, 3) := by decide +kernel
theorem dX5_hearAll_8 : decode cX5_hearAll 8 = .ok (.bipush 14, 2) := by decide +kernel
theorem dX5_hearAll_10 : decode cX5_hearAll 10 = .ok (.dup2, 1) := by decide +kernel
theorem dX5_hearAll_11 : decode cX5_hearAll 11 = .ok (.iaload, 1) := by decide +kernel
theorem dX5_hearAll_12 : decode cX5_hearAll 12 = .ok (.iconst 1, 1) := by decide +kernel
theorem dX5_hearAll_13 : decode cX5_hearAll 13 = .ok (.iadd, 1) := by decide +kernel
theorem dX5_hearAll_14 : decode cX5_hearAll 14 = .ok (.iastore, 1) := by decide +kernel
theorem dX5_hearAll_15 : decode cX5_hearAll 15 = .ok (.aload_n 0, 1) := by decide +kernel
theorem dX5_hearAll_16 : decode cX5_hearAll 16 = .ok (.aload_n 0, 1) := by decide +kernel
theorem dX5_hearAll_17 : decode cX5_hearAll 17 = .ok (.getfield 11, 3) := by decide +kernel
theorem dX5_hearAll_20 : decode cX5_hearAll 20 = .ok (.iconst 4, 1) := by decide +kernel
theorem dX5_hearAll_21 : decode cX5_hearAll 21 = .ok (.iaload, 1) := by decide +kernel
theorem dX5_hearAll_22 : decode cX5_hearAll 22 = .ok (.i2l, 1) := by decide +kernel
theorem dX5_hearAll_23 : decode cX5_hearAll 23 = .ok (.aload_n 0, 1) := by decide +kernel
theorem dX5_hearAll_24 : decode cX5_hearAll 24 = .ok (.getfield 11, 3) := by decide +kernel
theorem dX5_hearAll_27 : decode cX5_hearAll 27 = .ok (.iconst 5, 1) := by decide +kernel
theorem dX5_hearAll_28 : decode cX5_hearAll 28 = .ok (.iaload, 1) := by decide +kernel
theorem dX5_hearAll_29 : decode cX5_hearAll 29 = .ok (.i2l, 1) := by decide +kernel
theorem dX5_hearAll_30 : decode cX5_hearAll 30 = .ok (.invokevirtual 59, 3) := by decide +kernel
theorem dX5_hearAll_41 : decode cX5_hearAll 41 = .ok (.istore_n 1, 1) := by decide +kernel
theorem dX5_hearAll_42 : decode cX5_hearAll 42 = .ok (.iload_n 1, 1) := by decide +kernel
theorem dX5_hearAll_43 : decode cX5_hearAll 43 = .ok (.aload_n 0, 1) := by decide +kernel
theorem dX5_hearAll_44 : decode cX5_hearAll 44 = .ok (.getfield 11, 3) := by decide +kernel
theorem dX5_hearAll_47 : decode cX5_hearAll 47 = .ok (.bipush 6, 2) := by decide +kernel
theorem dX5_hearAll_49 : decode cX5_hearAll 49 = .ok (.iaload, 1) := by decide +kernel
theorem dX5_hearAll_64 : decode cX5_hearAll 64 = .ok (.aload_n 0, 1) := by decide +kernel
theorem dX5_hearAll_65 : decode cX5_hearAll 65 = .ok (.getfield 11, 3) := by decide +kernel
theorem dX5_hearAll_68 : decode cX5_hearAll 68 = .ok (.bipush 6, 2) := by decide +kernel
theorem dX5_hearAll_70 : decode cX5_hearAll 70 = .ok (.iload_n 1, 1) := by decide +kernel
theorem dX5_hearAll_71 : decode cX5_hearAll 71 = .ok (.iastore, 1) := by decide +kernel
theorem dX5_hearAll_72 : decode cX5_hearAll 72 = .ok (.return_, 1) := by decide +kernel
theorem dX5_hearAll_50 : decode cX5_hearAll 50 = .ok (.if_icmp .eq 14, 3) := by decide +kernel
theorem dX5_hearAll_53 : decode cX5_hearAll 53 = .ok (.aload_n 0, 1) := by decide +kernel
theorem dX5_hearAll_54 : decode cX5_hearAll 54 = .ok (.getfield 11, 3) := by decide +kernel
theorem dX5_hearAll_57 : decode cX5_hearAll 57 = .ok (.bipush 15, 2) := by decide +kernel
theorem dX5_hearAll_59 : decode cX5_hearAll 59 = .ok (.dup2, 1) := by decide +kernel
theorem dX5_hearAll_60 : decode cX5_hearAll 60 = .ok (.iaload, 1) := by decide +kernel
theorem dX5_hearAll_61 : decode cX5_hearAll 61 = .ok (.iconst 1, 1) := by decide +kernel
theorem dX5_hearAll_62 : decode cX5_hearAll 62 = .ok (.iadd, 1) := by decide +kernel
theorem dX5_hearAll_63 : decode cX5_hearAll 63 = .ok (.iastore, 1) := by decide +kernel
theorem dX5_hearAll_33 : decode cX5_hearAll 33 = .ok (.ifCond .eq 7, 3) := by decide +kernel
theorem dX5_hearAll_40 : decode cX5_hearAll 40 = .ok (.iconst 1, 1) := by decide +kernel
theorem dX5_hearAll_36 : decode cX5_hearAll 36 = .ok (.iconst 0, 1) := by decide +kernel
theorem dX5_hearAll_37 : decode cX5_hearAll 37 = .ok (.goto 4, 3) := by decide +kernel
theorem dX5_hearByHand_0 : decode cX5_hearByHand 0 = .ok (.aload_n 0, 1) := by decide +kernel
theorem dX5_hearByHand_1 : decode cX5_hearByHand 1 = .ok (.invokevirtual 162, 3) := by decide +kernel
theorem dX5_hearByHand_4 : decode cX5_hearByHand 4 = .ok (.iconst 2, 1) := by decide +kernel
theorem dX5_hearByHand_5 : decode cX5_hearByHand 5 = .ok (.aload_n 0, 1) := by decide +kernel
theorem dX5_hearByHand_6 : decode cX5_hearByHand 6 = .ok (.getfield 11, 3) := by decide +kernel
theorem dX5_hearByHand_9 : decode cX5_hearByHand 9 = .ok (.iconst 3, 1) := by decide +kernel
theorem dX5_hearByHand_10 : decode cX5_hearByHand 10 = .ok (.iaload, 1) := by decide +kernel
theorem dX5_hearByHand_11 : decode cX5_hearByHand 11 = .ok (.imul, 1) := by decide +kernel
theorem dX5_hearByHand_12 : decode cX5_hearByHand 12 = .ok (.ireturn, 1) := by decide +kernel
theorem dX5_endRound_34 : decode cX5_endRound 34 = .ok (.iload_n 1, 1) := by decide +kernel
theorem dX5_endRound_35 : decode cX5_endRound 35 = .ok (.aload_n 0, 1) := by decide +kernel
theorem dX5_endRound_36 : decode cX5_endRound 36 = .ok (.invokevirtual 45, 3) := by decide +kernel
theorem dX5_endRound_39 : decode cX5_endRound 39 = .ok (.if_icmp .ge 17, 3) := by decide +kernel
theorem dX5_endRound_42 : decode cX5_endRound 42 = .ok (.aload_n 0, 1) := by decide +kernel
theorem dX5_endRound_43 : decode cX5_endRound 43 = .ok (.iload_n 1, 1) := by decide +kernel
theorem dX5_endRound_44 : decode cX5_endRound 44 = .ok (.bipush 7, 2) := by decide +kernel
theorem dX5_endRound_46 : decode cX5_endRound 46 = .ok (.iconst 0, 1) := by decide +kernel
theorem dX5_endRound_47 : decode cX5_endRound 47 = .ok (.invokevirtual 52, 3) := by decide +kernel
theorem dX5_endRound_50 : decode cX5_endRound 50 = .ok (.iinc 1 1, 3) := by decide +kernel
theorem dX5_endRound_53 : decode cX5_endRound 53 = .ok (.goto (-19), 3) := by decide +kernel
theorem dX5_endRound_0 : decode cX5_endRound 0 = .ok (.aload_n 0, 1) := by decide +kernel
theorem dX5_endRound_1 : decode cX5_endRound 1 = .ok (.getfield 11, 3) := by decide +kernel
theorem dX5_endRound_4 : decode cX5_endRound 4 = .ok (.bipush 8, 2) := by decide +kernel
theorem dX5_endRound_6 : decode cX5_endRound 6 = .ok (.aload_n 0, 1) := by decide +kernel
theorem dX5_endRound_7 : decode cX5_endRound 7 = .ok (.bipush 6, 2) := by decide +kernel
theorem dX5_endRound_9 : decode cX5_endRound 9 = .ok (.invokevirtual 188, 3) := by decide +kernel
theorem dX5_endRound_12 : decode cX5_endRound 12 = .ok (.iastore, 1) := by decide +kernel
theorem dX5_endRound_13 : decode cX5_endRound 13 = .ok (.aload_n 0, 1) := by decide +kernel
theorem dX5_endRound_14 : decode cX5_endRound 14 = .ok (.getfield 11, 3) := by decide +kernel
theorem dX5_endRound_17 : decode cX5_endRound 17 = .ok (.bipush 9, 2) := by decide +kernel
theorem dX5_endRound_19 : decode cX5_endRound 19 = .ok (.iconst 0, 1) := by decide +kernel
theorem dX5_endRound_20 : decode cX5_endRound 20 = .ok (.iastore, 1) := by decide +kernel
theorem dX5_endRound_21 : decode cX5_endRound 21 = .ok (.aload_n 0, 1) := by decide +kernel
theorem dX5_endRound_22 : decode cX5_endRound 22 = .ok (.getfield 11, 3) := by decide +kernel
theorem dX5_endRound_25 : decode cX5_endRound 25 = .ok (.bipush 10, 2) := by decide +kernel
theorem dX5_endRound_27 : decode cX5_endRound 27 = .ok (.dup2, 1) := by decide +kernel
theorem dX5_endRound_28 : decode cX5_endRound 28 = .ok (.iaload, 1) := by decide +kernel
theorem dX5_endRound_29 : decode cX5_endRound 29 = .ok (.iconst 1, 1) := by decide +kernel
theorem dX5_endRound_30 : decode cX5_endRound 30 = .ok (.iadd, 1) := by decide +kernel
theorem dX5_endRound_31 : decode cX5_endRound 31 = .ok (.iastore, 1) := by decide +kernel
theorem dX5_endRound_32 : decode cX5_endRound 32 = .ok (.iconst 0, 1) := by decide +kernel
theorem dX5_endRound_33 : decode cX5_endRound 33 = .ok (.istore_n 1, 1) := by decide +kernel
theorem dX5_endRound_56 : decode cX5_endRound 56 = .ok (.return_, 1) := by decide +kernel
theorem dX5_startCounts_33 : decode cX5_startCounts 33 = .ok (.iload_n 2, 1) := by decide +kernel
theorem dX5_startCounts_34 : decode cX5_startCounts 34 = .ok (.aload_n 0, 1) := by decide +kernel
theorem dX5_startCounts_35 : decode cX5_startCounts 35 = .ok (.invokevirtual 45, 3) := by decide +kernel
theorem dX5_startCounts_38 : decode cX5_startCounts 38 = .ok (.if_icmp .ge 25, 3) := by decide +kernel
theorem dX5_startCounts_41 : decode cX5_startCounts 41 = .ok (.aload_n 0, 1) := by decide +kernel
theorem dX5_startCounts_42 : decode cX5_startCounts 42 = .ok (.iload_n 2, 1) := by decide +kernel
theorem dX5_startCounts_43 : decode cX5_startCounts 43 = .ok (.bipush 6, 2) := by decide +kernel
theorem dX5_startCounts_45 : decode cX5_startCounts 45 = .ok (.iconst 0, 1) := by decide +kernel
theorem dX5_startCounts_46 : decode cX5_startCounts 46 = .ok (.invokevirtual 52, 3) := by decide +kernel
theorem dX5_startCounts_49 : decode cX5_startCounts 49 = .ok (.aload_n 0, 1) := by decide +kernel
theorem dX5_startCounts_50 : decode cX5_startCounts 50 = .ok (.iload_n 2, 1) := by decide +kernel
theorem dX5_startCounts_51 : decode cX5_startCounts 51 = .ok (.bipush 7, 2) := by decide +kernel
theorem dX5_startCounts_53 : decode cX5_startCounts 53 = .ok (.iconst 0, 1) := by decide +kernel
theorem dX5_startCounts_54 : decode cX5_startCounts 54 = .ok (.invokevirtual 52, 3) := by decide +kernel
theorem dX5_startCounts_57 : decode cX5_startCounts 57 = .ok (.iinc 2 1, 3) := by decide +kernel
theorem dX5_startCounts_60 : decode cX5_startCounts 60 = .ok (.goto (-27), 3) := by decide +kernel
theorem dX5_startCounts_0 : decode cX5_startCounts 0 = .ok (.aload_n 0, 1) := by decide +kernel
theorem dX5_startCounts_1 : decode cX5_startCounts 1 = .ok (.getfield 11, 3) := by decide +kernel
theorem dX5_startCounts_4 : decode cX5_startCounts 4 = .ok (.iconst 2, 1) := by decide +kernel
theorem dX5_startCounts_5 : decode cX5_startCounts 5 = .ok (.iload_n 1, 1) := by decide +kernel
theorem dX5_startCounts_6 : decode cX5_startCounts 6 = .ok (.iastore, 1) := by decide +kernel
theorem dX5_startCounts_7 : decode cX5_startCounts 7 = .ok (.aload_n 0, 1) := by decide +kernel
theorem dX5_startCounts_8 : decode cX5_startCounts 8 = .ok (.getfield 11, 3) := by decide +kernel
theorem dX5_startCounts_11 : decode cX5_startCounts 11 = .ok (.bipush 8, 2) := by decide +kernel
theorem dX5_startCounts_13 : decode cX5_startCounts 13 = .ok (.iconst 0, 1) := by decide +kernel
theorem dX5_startCounts_14 : decode cX5_startCounts 14 = .ok (.iastore, 1) := by decide +kernel
theorem dX5_startCounts_15 : decode cX5_startCounts 15 = .ok (.aload_n 0, 1) := by decide +kernel
theorem dX5_startCounts_16 : decode cX5_startCounts 16 = .ok (.getfield 11, 3) := by decide +kernel
theorem dX5_startCounts_19 : decode cX5_startCounts 19 = .ok (.bipush 9, 2) := by decide +kernel
theorem dX5_startCounts_21 : decode cX5_startCounts 21 = .ok (.iconst 0, 1) := by decide +kernel
theorem dX5_startCounts_22 : decode cX5_startCounts 22 = .ok (.iastore, 1) := by decide +kernel
theorem dX5_startCounts_23 : decode cX5_startCounts 23 = .ok (.aload_n 0, 1) := by decide +kernel
theorem dX5_startCounts_24 : decode cX5_startCounts 24 = .ok (.getfield 11, 3) := by decide +kernel
theorem dX5_startCounts_27 : decode cX5_startCounts 27 = .ok (.bipush 10, 2) := by decide +kernel
theorem dX5_startCounts_29 : decode cX5_startCounts 29 = .ok (.iconst 0, 1) := by decide +kernel
theorem dX5_startCounts_30 : decode cX5_startCounts 30 = .ok (.iastore, 1) := by decide +kernel
theorem dX5_startCounts_31 : decode cX5_startCounts 31 = .ok (.iconst 0, 1) := by decide +kernel
theorem dX5_startCounts_32 : decode cX5_startCounts 32 = .ok (.istore_n 2, 1) := by decide +kernel
theorem dX5_startCounts_63 : decode cX5_startCounts 63 = .ok (.return_, 1) := by decide +kernel
theorem dX5_addTo_67 : decode cX5_addTo 67 = .ok (.iload 5, 2) := by decide +kernel
theorem dX5_addTo_69 : decode cX5_addTo 69 = .ok (.bipush 8, 2) := by decide +kernel
theorem dX5_addTo_71 : decode cX5_addTo 71 = .ok (.if_icmp .ge 82, 3) := by decide +kernel
theorem dX5_addTo_74 : decode cX5_addTo 74 = .ok (.aload_n 0, 1) := by decide +kernel
theorem dX5_addTo_75 : decode cX5_addTo 75 = .ok (.iload_n 1, 1) := by decide +kernel
theorem dX5_addTo_76 : decode cX5_addTo 76 = .ok (.bipush 7, 2) := by decide +kernel
theorem dX5_addTo_78 : decode cX5_addTo 78 = .ok (.invokevirtual 69, 3) := by decide +kernel
theorem dX5_addTo_81 : decode cX5_addTo 81 = .ok (.iload_n 3, 1) := by decide +kernel
theorem dX5_addTo_82 : decode cX5_addTo 82 = .ok (.if_icmp .lt 71, 3) := by decide +kernel
theorem dX5_addTo_85 : decode cX5_addTo 85 = .ok (.aload_n 0, 1) := by decide +kernel
theorem dX5_addTo_86 : decode cX5_addTo 86 = .ok (.iload_n 1, 1) := by decide +kernel
theorem dX5_addTo_87 : decode cX5_addTo 87 = .ok (.bipush 7, 2) := by decide +kernel
theorem dX5_addTo_89 : decode cX5_addTo 89 = .ok (.aload_n 0, 1) := by decide +kernel
theorem dX5_addTo_90 : decode cX5_addTo 90 = .ok (.iload_n 1, 1) := by decide +kernel
theorem dX5_addTo_91 : decode cX5_addTo 91 = .ok (.bipush 7, 2) := by decide +kernel
theorem dX5_addTo_93 : decode cX5_addTo 93 = .ok (.invokevirtual 69, 3) := by decide +kernel
theorem dX5_addTo_96 : decode cX5_addTo 96 = .ok (.iload_n 3, 1) := by decide +kernel
theorem dX5_addTo_97 : decode cX5_addTo 97 = .ok (.isub, 1) := by decide +kernel
theorem dX5_addTo_98 : decode cX5_addTo 98 = .ok (.invokevirtual 52, 3) := by decide +kernel
theorem dX5_addTo_101 : decode cX5_addTo 101 = .ok (.aload_n 0, 1) := by decide +kernel
theorem dX5_addTo_102 : decode cX5_addTo 102 = .ok (.getfield 11, 3) := by decide +kernel
theorem dX5_addTo_105 : decode cX5_addTo 105 = .ok (.bipush 9, 2) := by decide +kernel
theorem dX5_addTo_107 : decode cX5_addTo 107 = .ok (.dup2, 1) := by decide +kernel
theorem dX5_addTo_108 : decode cX5_addTo 108 = .ok (.iaload, 1) := by decide +kernel
theorem dX5_addTo_109 : decode cX5_addTo 109 = .ok (.iconst 1, 1) := by decide +kernel
theorem dX5_addTo_110 : decode cX5_addTo 110 = .ok (.iadd, 1) := by decide +kernel
theorem dX5_addTo_111 : decode cX5_addTo 111 = .ok (.iastore, 1) := by decide +kernel
theorem dX5_addTo_112 : decode cX5_addTo 112 = .ok (.iinc 4 1, 3) := by decide +kernel
theorem dX5_addTo_115 : decode cX5_addTo 115 = .ok (.aload_n 0, 1) := by decide +kernel
theorem dX5_addTo_116 : decode cX5_addTo 116 = .ok (.getfield 11, 3) := by decide +kernel
theorem dX5_addTo_119 : decode cX5_addTo 119 = .ok (.bipush 9, 2) := by decide +kernel
theorem dX5_addTo_121 : decode cX5_addTo 121 = .ok (.iaload, 1) := by decide +kernel
theorem dX5_addTo_122 : decode cX5_addTo 122 = .ok (.aload_n 0, 1) := by decide +kernel
theorem dX5_addTo_123 : decode cX5_addTo 123 = .ok (.getfield 11, 3) := by decide +kernel
theorem dX5_addTo_126 : decode cX5_addTo 126 = .ok (.iconst 3, 1) := by decide +kernel
theorem dX5_addTo_127 : decode cX5_addTo 127 = .ok (.iaload, 1) := by decide +kernel
theorem dX5_addTo_128 : decode cX5_addTo 128 = .ok (.if_icmp .lt 19, 3) := by decide +kernel
theorem dX5_addTo_147 : decode cX5_addTo 147 = .ok (.iinc 5 1, 3) := by decide +kernel
theorem dX5_addTo_150 : decode cX5_addTo 150 = .ok (.goto (-83), 3) := by decide +kernel
theorem dX5_addTo_0 : decode cX5_addTo 0 = .ok (.aload_n 0, 1) := by decide +kernel
theorem dX5_addTo_1 : decode cX5_addTo 1 = .ok (.iload_n 1, 1) := by decide +kernel
theorem dX5_addTo_2 : decode cX5_addTo 2 = .ok (.bipush 6, 2) := by decide +kernel
theorem dX5_addTo_4 : decode cX5_addTo 4 = .ok (.aload_n 0, 1) := by decide +kernel
theorem dX5_addTo_5 : decode cX5_addTo 5 = .ok (.iload_n 1, 1) := by decide +kernel
theorem dX5_addTo_6 : decode cX5_addTo 6 = .ok (.bipush 6, 2) := by decide +kernel
theorem dX5_addTo_8 : decode cX5_addTo 8 = .ok (.invokevirtual 69, 3) := by decide +kernel
theorem dX5_addTo_11 : decode cX5_addTo 11 = .ok (.iload_n 2, 1) := by decide +kernel
theorem dX5_addTo_12 : decode cX5_addTo 12 = .ok (.iadd, 1) := by decide +kernel
theorem dX5_addTo_13 : decode cX5_addTo 13 = .ok (.invokevirtual 52, 3) := by decide +kernel
theorem dX5_addTo_16 : decode cX5_addTo 16 = .ok (.aload_n 0, 1) := by decide +kernel
theorem dX5_addTo_17 : decode cX5_addTo 17 = .ok (.aload_n 0, 1) := by decide +kernel
theorem dX5_addTo_18 : decode cX5_addTo 18 = .ok (.getfield 11, 3) := by decide +kernel
theorem dX5_addTo_21 : decode cX5_addTo 21 = .ok (.bipush 8, 2) := by decide +kernel
theorem dX5_addTo_23 : decode cX5_addTo 23 = .ok (.iaload, 1) := by decide +kernel
theorem dX5_addTo_24 : decode cX5_addTo 24 = .ok (.invokevirtual 182, 3) := by decide +kernel
theorem dX5_addTo_27 : decode cX5_addTo 27 = .ok (.istore_n 3, 1) := by decide +kernel
theorem dX5_addTo_28 : decode cX5_addTo 28 = .ok (.iload_n 3, 1) := by decide +kernel
theorem dX5_addTo_29 : decode cX5_addTo 29 = .ok (.ifCond .ne 16, 3) := by decide +kernel
theorem dX5_addTo_45 : decode cX5_addTo 45 = .ok (.aload_n 0, 1) := by decide +kernel
theorem dX5_addTo_46 : decode cX5_addTo 46 = .ok (.iload_n 1, 1) := by decide +kernel
theorem dX5_addTo_47 : decode cX5_addTo 47 = .ok (.bipush 7, 2) := by decide +kernel
theorem dX5_addTo_49 : decode cX5_addTo 49 = .ok (.aload_n 0, 1) := by decide +kernel
theorem dX5_addTo_50 : decode cX5_addTo 50 = .ok (.iload_n 1, 1) := by decide +kernel
theorem dX5_addTo_51 : decode cX5_addTo 51 = .ok (.bipush 7, 2) := by decide +kernel
theorem dX5_addTo_53 : decode cX5_addTo 53 = .ok (.invokevirtual 69, 3) := by decide +kernel
theorem dX5_addTo_56 : decode cX5_addTo 56 = .ok (.iload_n 2, 1) := by decide +kernel
theorem dX5_addTo_57 : decode cX5_addTo 57 = .ok (.iadd, 1) := by decide +kernel
theorem dX5_addTo_58 : decode cX5_addTo 58 = .ok (.invokevirtual 52, 3) := by decide +kernel
theorem dX5_addTo_61 : decode cX5_addTo 61 = .ok (.iconst 0, 1) := by decide +kernel
theorem dX5_addTo_62 : decode cX5_addTo 62 = .ok (.istore 4, 2) := by decide +kernel
theorem dX5_addTo_64 : decode cX5_addTo 64 = .ok (.iconst 0, 1) := by decide +kernel
theorem dX5_addTo_65 : decode cX5_addTo 65 = .ok (.istore 5, 2) := by decide +kernel
theorem dX5_addTo_131 : decode cX5_addTo 131 = .ok (.aload_n 0, 1) := by decide +kernel
theorem dX5_addTo_132 : decode cX5_addTo 132 = .ok (.invokevirtual 185, 3) := by decide +kernel
theorem dX5_addTo_135 : decode cX5_addTo 135 = .ok (.iload 4, 2) := by decide +kernel
theorem dX5_addTo_137 : decode cX5_addTo 137 = .ok (.iconst 2, 1) := by decide +kernel
theorem dX5_addTo_138 : decode cX5_addTo 138 = .ok (.aload_n 0, 1) := by decide +kernel
theorem dX5_addTo_139 : decode cX5_addTo 139 = .ok (.getfield 11, 3) := by decide +kernel
theorem dX5_addTo_142 : decode cX5_addTo 142 = .ok (.iconst 3, 1) := by decide +kernel
theorem dX5_addTo_143 : decode cX5_addTo 143 = .ok (.iaload, 1) := by decide +kernel
theorem dX5_addTo_144 : decode cX5_addTo 144 = .ok (.imul, 1) := by decide +kernel
theorem dX5_addTo_145 : decode cX5_addTo 145 = .ok (.iadd, 1) := by decide +kernel
theorem dX5_addTo_146 : decode cX5_addTo 146 = .ok (.ireturn, 1) := by decide +kernel
theorem dX5_addTo_153 : decode cX5_addTo 153 = .ok (.iload 4, 2) := by decide +kernel
theorem dX5_addTo_155 : decode cX5_addTo 155 = .ok (.ireturn, 1) := by decide +kernel
theorem dX5_addTo_32 : decode cX5_addTo 32 = .ok (.aload_n 0, 1) := by decide +kernel
theorem dX5_addTo_33 : decode cX5_addTo 33 = .ok (.getfield 11, 3) := by decide +kernel
theorem dX5_addTo_36 : decode cX5_addTo 36 = .ok (.bipush 8, 2) := by decide +kernel
theorem dX5_addTo_38 : decode cX5_addTo 38 = .ok (.dup2, 1) := by decide +kernel
theorem dX5_addTo_39 : decode cX5_addTo 39 = .ok (.iaload, 1) := by decide +kernel
theorem dX5_addTo_40 : decode cX5_addTo 40 = .ok (.iload_n 2, 1) := by decide +kernel
theorem dX5_addTo_41 : decode cX5_addTo 41 = .ok (.iadd, 1) := by decide +kernel
theorem dX5_addTo_42 : decode cX5_addTo 42 = .ok (.iastore, 1) := by decide +kernel
theorem dX5_addTo_43 : decode cX5_addTo 43 = .ok (.iconst 1, 1) := by decide +kernel
theorem dX5_addTo_44 : decode cX5_addTo 44 = .ok (.ireturn, 1) := by decide +kernel
def v_s_shift : List Cond := .code yX5_shift cX5_shift 4 none :: ([.methodLink RX5 69 yX5_of, .instanceMethod yX5_of, .selects RX5 yX5_of yX5_of, .initialized RX5, .methodLink RX5 52 yX5_put, .instanceMethod yX5_put, .selects RX5 yX5_put yX5_put] ++ (v_s_of ++ (v_s_put ++ ([]))))
theorem gw_s_shift : v_s_shift.all goodWord = true := by decide +kernel
theorem g_s_shift_s_of_69 : GoodIn v_s_shift (wsV RX5 69 RX5 yX5_of v_s_of) := goodIn_app (goodIn_of _ (by decide +kernel)) (goodIn_sub (fun _ h => List.mem_cons_of_mem _ (List.mem_append_right _ (List.mem_append_left _ h))) gw_s_of)
theorem g_s_shift_s_put_52 : GoodIn v_s_shift (wsV RX5 52 RX5 yX5_put v_s_put) := goodIn_app (goodIn_of _ (by decide +kernel)) (goodIn_sub (fun _ h => List.mem_cons_of_mem _ (List.mem_append_right _ (List.mem_append_right _ (List.mem_append_left _ h)))) gw_s_put)
set_option maxHeartbeats 4000000 in
set_option maxRecDepth 100000 in
theorem s_shift (l : Launch) (E : EE) (sz : Nat) (h g1 g2 g3 g4 k : Nat) (ka ko : Int32) (f : Nat → Int32) (p0 p1 p2 : Int32) (hk : f 3 = nI k) (hk8 : k ≤ 8) : Met l yX5_shift v_s_shift ({ frames := 1, cells := 0, slots := 0, locals := 23 }) (va_Pc [.ref h, .int p0, .int p1, .int p2] (pW E sz [(h, .inr (6, [.ref g1, .ref g2, .int ka, .int ko, .ref g3, .ref g4])), (g1, .inl (E.2.1, 81, .inl f))])) (va_Qv (fun (f1 : Nat → Int32) => f1 3 = nI k) (fun (f1 : Nat → Int32) tt => va_P E.1 vwCl [(h, .inr (6, [.ref g1, .ref g2, .int ka, .int ko, .ref g3, .ref g4])), (g1, .inl (E.2.1, 81, .inl f1))] tt.heap ∧ va_D (va_A [(h, .inr (6, [.ref g1, .ref g2, .int ka, .int ko, .ref g3, .ref g4])), (g1, .inl (E.2.1, 81, .inl f))] sz) [(h, .inr (6, [.ref g1, .ref g2, .int ka, .int ko, .ref g3, .ref g4])), (g1, .inl (E.2.1, 81, .inl f1))]) (va_A [(h, .inr (6, [.ref g1, .ref g2, .int ka, .int ko, .ref g3, .ref g4])), (g1, .inl (E.2.1, 81, .inl f))] sz)) 0 0 (va_A [(h, .inr (6, [.ref g1, .ref g2, .int ka, .int ko, .ref g3, .ref g4])), (g1, .inl (E.2.1, 81, .inl f))] sz) := by
  refine Met.ofW (cc := cX5_shift) (maxL := 4) (ret := none) (by decide) rfl ?_
  intro p e s m args below meth c s₁ B hml hv
  obtain ⟨rfl, hsz, ⟨hK, hN⟩, hP, hD0⟩ := hv
  have hx := B.exec
  have hb := B.bytes
  have hr := B.returns
  have hts := atoms_spec (ws := v_s_shift) B.pre
  have hown : s.vm.findClass RX5 = some m.cls := findClass_of_methodNamed B.named
  have hlocks := B.notSynchronized
  subst hsz
  have hD := hD0.self (sz := s.heap.size)
  generalize hAe : va_A [(h, .inr (6, [.ref g1, .ref g2, .int ka, .int ko, .ref g3, .ref g4])), (g1, .inl (E.2.1, 81, .inl f))] s.heap.size = A at hD ⊢
  have hA : ∀ q : Nat, s.heap.size ≤ q → A q := fun q h => by rw [← hAe]; exact Or.inr h
  have hS : va_S A s.heap s.heap [] := va_S.rf
  have hP : va_P E.1 vwCl [(h, .inr (6, [.ref g1, .ref g2, .int ka, .int ko, .ref g3, .ref g4])), (g1, .inl (E.2.1, 81, .inl f))] s.heap := hP
  have hl := lv_entry ([.ref h, .int p0, .int p1, .int p2]) (n := 4) (Nat.le_of_ble_eq_true rfl)
  rw [lg_entry_eq]
  generalize (lg_sl ([.ref h, .int p0, .int p1, .int p2]) ++ List.replicate (4 - (lg_sl ([.ref h, .int p0, .int p1, .int p2])).length) Slot.unset).toArray = ls at hl ⊢
  have hl : lv_has ls 4 [(0, .ref h), (1, .int p0), (2, .int p1), (3, .int p2)] := hl
  obtain ⟨Q, hQ⟩ : ∃ Q : State → Prop, Q = MQ below (va_Qv (fun (f1 : Nat → Int32) => f1 3 = nI k) (fun (f1 : Nat → Int32) tt => va_P E.1 vwCl [(h, .inr (6, [.ref g1, .ref g2, .int ka, .int ko, .ref g3, .ref g4])), (g1, .inl (E.2.1, 81, .inl f1))] tt.heap ∧ va_D A [(h, .inr (6, [.ref g1, .ref g2, .int ka, .int ko, .ref g3, .ref g4])), (g1, .inl (E.2.1, 81, .inl f1))]) A) #[Value.ref h, Value.int p0, Value.int p1, Value.int p2] s 0 0 A := ⟨_, rfl⟩
  rw [← hQ]
  change W p l e ({ frames := 1, cells := 0, slots := 0, locals := 23 } : Room) s m #[Value.ref h, Value.int p0, Value.int p1, Value.int p2] below meth c s.heap [] 0 0 Q (F0 m 0 ls [])
  refine lv_aload_n hx hb dX5_shift_0 rfl (lv_at hl 0 rfl) ?_
  refine lv_iload_n hx hb dX5_shift_1 rfl (lv_at hl 1 rfl) ?_
  refine lv_iconst (v := 0) hx hb dX5_shift_2 (by decide) ?_
  refine lv_aload_n hx hb dX5_shift_3 rfl (lv_at hl 0 rfl) ?_
  refine lv_iload_n hx hb dX5_shift_4 rfl (lv_at hl 1 rfl) ?_
  refine lv_iconst (v := 0) hx hb dX5_shift_5 (by decide) ?_
  have hPc := hP.sub (ws' := [(h, .inr (6, [.ref g1, .ref g2, .int ka, .int ko, .ref g3, .ref g4])), (g1, .inl (E.2.1, 81, .inl f))]) [0, 1] rfl
  refine pc_i (va_runV (As := [.int p0, .int 0]) (rest := [.int 0, .int p0, .ref h]) ⟨hx, hb, hml, hown, hts⟩ (s_of l E h g1 g2 g3 g4 k ka ko f p0 0 hk (by omega)) (cwV 2 hts g_s_shift_s_of_69 rfl rfl rfl (by decide +kernel) ⟨Nat.le_of_ble_eq_true rfl, Nat.le_of_ble_eq_true rfl⟩) ⟨pP.blind, va_recv hK hPc (ci := 6) (q0 := 0) rfl rfl, (pP.pre ⟨hK, hN⟩ hPc)⟩ rfl rfl hl.1 rfl (lv_room (Nat.le_of_ble_eq_true rfl)) dX5_shift_6 ⟨Nat.le_of_ble_eq_true rfl, Nat.le_of_ble_eq_true rfl⟩) (fun r_1 hr_1 => ?_)
  refine lv_iload_n hx hb dX5_shift_9 rfl (lv_at hl 2 rfl) ?_
  refine lv_iadd hx hb dX5_shift_10 ?_
  refine lv_topi (fun z_2 ez_2 => ?_)
  have hPc := hP.sub (ws' := [(h, .inr (6, [.ref g1, .ref g2, .int ka, .int ko, .ref g3, .ref g4])), (g1, .inl (E.2.1, 81, .inl f))]) [0, 1] rfl
  have hDc := hD.sub (ws' := [(h, .inr (6, [.ref g1, .ref g2, .int ka, .int ko, .ref g3, .ref g4])), (g1, .inl (E.2.1, 81, .inl f))]) [0, 1] (by decide) rfl
  have hFc := va_free (wc := [(h, .inr (6, [.ref g1, .ref g2, .int ka, .int ko, .ref g3, .ref g4])), (g1, .inl (E.2.1, 81, .inl f))]) hD hS hA [0, 1] rfl
  refine va_callv (va_runV (As := [.int p0, .int 0, .int z_2]) (rest := []) ⟨hx, hb, hml, hown, hts⟩ (s_put l E s.heap.size h g1 g2 g3 g4 k ka ko f p0 0 z_2 hk (by omega)) (cwV 3 hts g_s_shift_s_put_52 rfl rfl rfl (by decide +kernel) ⟨Nat.le_of_ble_eq_true rfl, Nat.le_of_ble_eq_true rfl⟩) ⟨pW.blind, va_recv hK hPc (ci := 6) (q0 := 0) rfl rfl, (pW.pre ⟨hK, hN⟩ hPc hDc)⟩ rfl rfl hl.1 rfl (lv_room (Nat.le_of_ble_eq_true rfl)) dX5_shift_11 ⟨Nat.le_of_ble_eq_true rfl, Nat.le_of_ble_eq_true rfl⟩) hS (fun q _ h => hFc q h) hFc (fun  u_3 tt H1 locs ht hvm hw hB hz1 hk1 hS => ?_)
  obtain ⟨hP1, hD1⟩ := hB
  rw [ht] at hP1
  obtain ⟨hP, hD⟩ := va_join (wr := []) (w1 := [(h, .inr (6, [.ref g1, .ref g2, .int ka, .int ko, .ref g3, .ref g4])), (g1, .inl (E.2.1, 81, .inl u_3))]) hP hD [0, 1] [] rfl rfl (by decide) (by decide) hk1 hFc hP1 hD1
  generalize H1 = H at hP hS ⊢
  have hP : va_P E.1 vwCl [(h, .inr (6, [.ref g1, .ref g2, .int ka, .int ko, .ref g3, .ref g4])), (g1, .inl (E.2.1, 81, .inl u_3))] H := hP
  have hD : va_D A [(h, .inr (6, [.ref g1, .ref g2, .int ka, .int ko, .ref g3, .ref g4])), (g1, .inl (E.2.1, 81, .inl u_3))] := hD
  have hsw_4 := hw
  have kk_5 := hsw_4
  refine lv_aload_n hx hb dX5_shift_14 rfl (lv_at hl 0 rfl) ?_
  refine lv_iload_n hx hb dX5_shift_15 rfl (lv_at hl 1 rfl) ?_
  refine lv_iconst (v := 1) hx hb dX5_shift_16 (by decide) ?_
  refine lv_aload_n hx hb dX5_shift_17 rfl (lv_at hl 0 rfl) ?_
  refine lv_iload_n hx hb dX5_shift_18 rfl (lv_at hl 1 rfl) ?_
  refine lv_iconst (v := 1) hx hb dX5_shift_19 (by decide) ?_
  have hPc := hP.sub (ws' := [(h, .inr (6, [.ref g1, .ref g2, .int ka, .int ko, .ref g3, .ref g4])), (g1, .inl (E.2.1, 81, .inl u_3))]) [0, 1] rfl
  refine pc_i (va_runV (As := [.int p0, .int 1]) (rest := [.int 1, .int p0, .ref h]) ⟨hx, hb, hml, hown, hts⟩ (s_of l E h g1 g2 g3 g4 k ka ko u_3 p0 1 kk_5 (by omega)) (cwV 2 hts g_s_shift_s_of_69 rfl rfl rfl (by decide +kernel) ⟨Nat.le_of_ble_eq_true rfl, Nat.le_of_ble_eq_true rfl⟩) ⟨pP.blind, va_recv hK hPc (ci := 6) (q0 := 0) rfl rfl, (pP.pre ⟨hK, hN⟩ hPc)⟩ rfl rfl hl.1 rfl (lv_room (Nat.le_of_ble_eq_true rfl)) dX5_shift_20 ⟨Nat.le_of_ble_eq_true rfl, Nat.le_of_ble_eq_true rfl⟩) (fun r_6 hr_6 => ?_)
  refine lv_iload_n hx hb dX5_shift_23 rfl (lv_at hl 3 rfl) ?_
  refine lv_iadd hx hb dX5_shift_24 ?_
  refine lv_topi (fun z_7 ez_7 => ?_)
  have hPc := hP.sub (ws' := [(h, .inr (6, [.ref g1, .ref g2, .int ka, .int ko, .ref g3, .ref g4])), (g1, .inl (E.2.1, 81, .inl u_3))]) [0, 1] rfl
  have hDc := hD.sub (ws' := [(h, .inr (6, [.ref g1, .ref g2, .int ka, .int ko, .ref g3, .ref g4])), (g1, .inl (E.2.1, 81, .inl u_3))]) [0, 1] (by decide) rfl
  have hFc := va_free (wc := [(h, .inr (6, [.ref g1, .ref g2, .int ka, .int ko, .ref g3, .ref g4])), (g1, .inl (E.2.1, 81, .inl u_3))]) hD hS hA [0, 1] rfl
  refine va_callv (va_runV (As := [.int p0, .int 1, .int z_7]) (rest := []) ⟨hx, hb, hml, hown, hts⟩ (s_put l E H.size h g1 g2 g3 g4 k ka ko u_3 p0 1 z_7 kk_5 (by omega)) (cwV 3 hts g_s_shift_s_put_52 rfl rfl rfl (by decide +kernel) ⟨Nat.le_of_ble_eq_true rfl, Nat.le_of_ble_eq_true rfl⟩) ⟨pW.blind, va_recv hK hPc (ci := 6) (q0 := 0) rfl rfl, (pW.pre ⟨hK, hN⟩ hPc hDc)⟩ rfl rfl hl.1 rfl (lv_room (Nat.le_of_ble_eq_true rfl)) dX5_shift_25 ⟨Nat.le_of_ble_eq_true rfl, Nat.le_of_ble_eq_true rfl⟩) hS (fun q _ h => hFc q h) hFc (fun  u_8 tt H1 locs ht hvm hw hB hz1 hk1 hS => ?_)
  obtain ⟨hP1, hD1⟩ := hB
  rw [ht] at hP1
  obtain ⟨hP, hD⟩ := va_join (wr := []) (w1 := [(h, .inr (6, [.ref g1, .ref g2, .int ka, .int ko, .ref g3, .ref g4])), (g1, .inl (E.2.1, 81, .inl u_8))]) hP hD [0, 1] [] rfl rfl (by decide) (by decide) hk1 hFc hP1 hD1
  generalize H1 = H at hP hS ⊢
  have hP : va_P E.1 vwCl [(h, .inr (6, [.ref g1, .ref g2, .int ka, .int ko, .ref g3, .ref g4])), (g1, .inl (E.2.1, 81, .inl u_8))] H := hP
  have hD : va_D A [(h, .inr (6, [.ref g1, .ref g2, .int ka, .int ko, .ref g3, .ref g4])), (g1, .inl (E.2.1, 81, .inl u_8))] := hD
  have hsw_9 := hw
  have kk_10 := hsw_9
  rw [hQ]
  have hP9 := hP.sub (ws' := [(h, .inr (6, [.ref g1, .ref g2, .int ka, .int ko, .ref g3, .ref g4])), (g1, .inl (E.2.1, 81, .inl u_8))]) [0, 1] rfl
  have hD9 := hD.sub (ws' := [(h, .inr (6, [.ref g1, .ref g2, .int ka, .int ko, .ref g3, .ref g4])), (g1, .inl (E.2.1, 81, .inl u_8))]) [0, 1] (by decide) rfl
  exact W.vret hx hb hr (fun tt ht hW => ⟨⟨u_8, rfl, kk_10, by rw [ht]; exact hP9, hD9⟩, hS.F ht⟩) hS.2.2 dX5_shift_28

def v_s_hearPlaces : List Cond := .code yX5_hearPlaces cX5_hearPlaces 2 none :: ([.fieldLink RX5 11 "HushWatch$State" "row" "[I", .methodLink RX5 45 yX5_sites, .instanceMethod yX5_sites, .selects RX5 yX5_sites yX5_sites, .initialized RX5, .methodLink RX5 69 yX5_of, .instanceMethod yX5_of, .selects RX5 yX5_of yX5_of, .methodLink RX5 52 yX5_put, .instanceMethod yX5_put, .selects RX5 yX5_put yX5_put] ++ (wsX50 ++ (v_s_sites ++ (v_s_of ++ (v_s_put ++ ([]))))))
theorem gw_s_hearPlaces : v_s_hearPlaces.all goodWord = true := by decide +kernel
theorem i_s_hearPlaces_X5 : ∀ w ∈ wsX50, w ∈ v_s_hearPlaces := fun _ h => List.mem_cons_of_mem _ (List.mem_append_right _ (List.mem_append_left _ h))
theorem g_s_hearPlaces_s_sites_45 : GoodIn v_s_hearPlaces (wsV RX5 45 RX5 yX5_sites v_s_sites) := goodIn_app (goodIn_of _ (by decide +kernel)) (goodIn_sub (fun _ h => List.mem_cons_of_mem _ (List.mem_append_right _ (List.mem_append_right _ (List.mem_append_left _ h)))) gw_s_sites)
theorem g_s_hearPlaces_s_of_69 : GoodIn v_s_hearPlaces (wsV RX5 69 RX5 yX5_of v_s_of) := goodIn_app (goodIn_of _ (by decide +kernel)) (goodIn_sub (fun _ h => List.mem_cons_of_mem _ (List.mem_append_right _ (List.mem_append_right _ (List.mem_append_right _ (List.mem_append_left _ h))))) gw_s_of)
theorem g_s_hearPlaces_s_put_52 : GoodIn v_s_hearPlaces (wsV RX5 52 RX5 yX5_put v_s_put) := goodIn_app (goodIn_of _ (by decide +kernel)) (goodIn_sub (fun _ h => List.mem_cons_of_mem _ (List.mem_append_right _ (List.mem_append_right _ (List.mem_append_right _ (List.mem_append_right _ (List.mem_append_left _ h)))))) gw_s_put)
set_option maxHeartbeats 4000000 in
set_option maxRecDepth 100000 in
theorem lp_s_hearPlaces_16 {p : Program} (l : Launch) {e : Env} {s : State} {m : MethodId} {below : List Frame} {meth : Method} {c : Code} {Q : State → Prop} (E : EE) {h g1 g2 g3 g4 k : Nat} {ka ko : Int32} {f : Nat → Int32} (hk : f 3 = nI k) (hk8 : k ≤ 8) (hx : p.tables.exec = Jvm.exec) (hb : c.code = cX5_hearPlaces) (hml : c.maxLocals = 2) (hown : s.vm.findClass RX5 = some m.cls) (hts : ∀ w ∈ v_s_hearPlaces, w.before #[Value.ref h] s = true) (hK : va_K E.1 vwCl (TY E) s) (hN : NX s) {A : Nat → Prop} (hA : ∀ q : Nat, s.heap.size ≤ q → A q) (KX98 : ∀ (i : Nat), ∀ (f1 : Nat → Int32), ∀ (H : Heap) (locs : List Loc) (ls : Array Slot), i ≤ 8 → f1 3 = nI k → va_P E.1 vwCl [(h, .inr (6, [.ref g1, .ref g2, .int ka, .int ko, .ref g3, .ref g4])), (g1, .inl (E.2.1, 81, .inl f1))] H → va_D A [(h, .inr (6, [.ref g1, .ref g2, .int ka, .int ko, .ref g3, .ref g4])), (g1, .inl (E.2.1, 81, .inl f1))] → va_S A s.heap H locs → lv_has ls 2 [(0, .ref h), (1, .int (nI i))] → W p l e ({ frames := 1, cells := 0, slots := 0, locals := 23 } : Room) s m #[Value.ref h] below meth c H locs 0 0 Q (F0 m 98 ls [])) : ∀ fuel9 : Nat, ∀ (i : Nat), ∀ (f1 : Nat → Int32), ∀ (H : Heap) (locs : List Loc) (ls : Array Slot), i ≤ 8 → f1 3 = nI k → (9 - i) < fuel9 → va_P E.1 vwCl [(h, .inr (6, [.ref g1, .ref g2, .int ka, .int ko, .ref g3, .ref g4])), (g1, .inl (E.2.1, 81, .inl f1))] H → va_D A [(h, .inr (6, [.ref g1, .ref g2, .int ka, .int ko, .ref g3, .ref g4])), (g1, .inl (E.2.1, 81, .inl f1))] → va_S A s.heap H locs → lv_has ls 2 [(0, .ref h), (1, .int (nI i))] → W p l e ({ frames := 1, cells := 0, slots := 0, locals := 23 } : Room) s m #[Value.ref h] below meth c H locs 0 0 Q (F0 m 16 ls []) := by
  intro fuel9
  induction fuel9 with
  | zero =>
    intro i f1 H locs ls hi kf1_3 hms hP hD hS hl
    omega
  | succ fuel9 ih =>
    intro i f1 H locs ls hi kf1_3 hms hP hD hS hl
    refine lv_iload_n hx hb dX5_hearPlaces_16 rfl (lv_at hl 1 rfl) ?_
    refine lv_aload_n hx hb dX5_hearPlaces_17 rfl (lv_at hl 0 rfl) ?_
    have hPc := hP.sub (ws' := [(h, .inr (6, [.ref g1, .ref g2, .int ka, .int ko, .ref g3, .ref g4])), (g1, .inl (E.2.1, 81, .inl f1))]) [0, 1] rfl
    refine pc_i (va_runV (As := []) (rest := [.int (nI i)]) ⟨hx, hb, hml, hown, hts⟩ (s_sites l E h g1 g2 g3 g4 k ka ko f1 kf1_3 (by omega)) (cwV 0 hts g_s_hearPlaces_s_sites_45 rfl rfl rfl (by decide +kernel) ⟨Nat.le_of_ble_eq_true rfl, Nat.le_of_ble_eq_true rfl⟩) ⟨pP.blind, va_recv hK hPc (ci := 6) (q0 := 0) rfl rfl, (pP.pre ⟨hK, hN⟩ hPc)⟩ rfl rfl hl.1 rfl (lv_room (Nat.le_of_ble_eq_true rfl)) dX5_hearPlaces_18 ⟨Nat.le_of_ble_eq_true rfl, Nat.le_of_ble_eq_true rfl⟩) (fun r_3 hr_3 => ?_)
    obtain rfl : r_3 = nI k := hr_3
    refine lv_icmp_ge (tgt := 98) hx hb dX5_hearPlaces_21 (by decide) (fun c_4 => ?_) (fun c_4 => ?_)
    ·
      have d_27 : k ≤ i := nc_ge (a := i) (b := k) (by omega) (by omega) c_4
      exact KX98 i f1 H locs ls (by omega) kf1_3 (hP.sub [0, 1] rfl) (hD.sub [0, 1] (by decide) rfl) hS (lv_sub hl [0, 1] rfl)
    ·
      have d_28 : ¬ (k ≤ i) := nc_ge_n (a := i) (b := k) (by omega) (by omega) c_4
      refine lv_aload_n hx hb dX5_hearPlaces_24 rfl (lv_at hl 0 rfl) ?_
      refine lv_iload_n hx hb dX5_hearPlaces_25 rfl (lv_at hl 1 rfl) ?_
      refine lv_iconst (v := 2) hx hb dX5_hearPlaces_26 (by decide) ?_
      refine lv_aload_n hx hb dX5_hearPlaces_27 rfl (lv_at hl 0 rfl) ?_
      refine lv_iload_n hx hb dX5_hearPlaces_28 rfl (lv_at hl 1 rfl) ?_
      refine lv_iconst (v := 0) hx hb dX5_hearPlaces_29 (by decide) ?_
      have hPc := hP.sub (ws' := [(h, .inr (6, [.ref g1, .ref g2, .int ka, .int ko, .ref g3, .ref g4])), (g1, .inl (E.2.1, 81, .inl f1))]) [0, 1] rfl
      refine pc_i (va_runV (As := [.int (nI i), .int 0]) (rest := [.int 2, .int (nI i), .ref h]) ⟨hx, hb, hml, hown, hts⟩ (s_of l E h g1 g2 g3 g4 k ka ko f1 (nI i) 0 kf1_3 (by omega)) (cwV 2 hts g_s_hearPlaces_s_of_69 rfl rfl rfl (by decide +kernel) ⟨Nat.le_of_ble_eq_true rfl, Nat.le_of_ble_eq_true rfl⟩) ⟨pP.blind, va_recv hK hPc (ci := 6) (q0 := 0) rfl rfl, (pP.pre ⟨hK, hN⟩ hPc)⟩ rfl rfl hl.1 rfl (lv_room (Nat.le_of_ble_eq_true rfl)) dX5_hearPlaces_30 ⟨Nat.le_of_ble_eq_true rfl, Nat.le_of_ble_eq_true rfl⟩) (fun r_29 hr_29 => ?_)
      have hPc := hP.sub (ws' := [(h, .inr (6, [.ref g1, .ref g2, .int ka, .int ko, .ref g3, .ref g4])), (g1, .inl (E.2.1, 81, .inl f1))]) [0, 1] rfl
      have hDc := hD.sub (ws' := [(h, .inr (6, [.ref g1, .ref g2, .int ka, .int ko, .ref g3, .ref g4])), (g1, .inl (E.2.1, 81, .inl f1))]) [0, 1] (by decide) rfl
      have hFc := va_free (wc := [(h, .inr (6, [.ref g1, .ref g2, .int ka, .int ko, .ref g3, .ref g4])), (g1, .inl (E.2.1, 81, .inl f1))]) hD hS hA [0, 1] rfl
      refine va_callv (va_runV (As := [.int (nI i), .int 2, .int r_29]) (rest := []) ⟨hx, hb, hml, hown, hts⟩ (s_put l E H.size h g1 g2 g3 g4 k ka ko f1 (nI i) 2 r_29 kf1_3 (by omega)) (cwV 3 hts g_s_hearPlaces_s_put_52 rfl rfl rfl (by decide +kernel) ⟨Nat.le_of_ble_eq_true rfl, Nat.le_of_ble_eq_true rfl⟩) ⟨pW.blind, va_recv hK hPc (ci := 6) (q0 := 0) rfl rfl, (pW.pre ⟨hK, hN⟩ hPc hDc)⟩ rfl rfl hl.1 rfl (lv_room (Nat.le_of_ble_eq_true rfl)) dX5_hearPlaces_33 ⟨Nat.le_of_ble_eq_true rfl, Nat.le_of_ble_eq_true rfl⟩) hS (fun q _ h => hFc q h) hFc (fun  u_30 tt H1 locs ht hvm hw hB hz1 hk1 hS => ?_)
      obtain ⟨hP1, hD1⟩ := hB
      rw [ht] at hP1
      obtain ⟨hP, hD⟩ := va_join (wr := []) (w1 := [(h, .inr (6, [.ref g1, .ref g2, .int ka, .int ko, .ref g3, .ref g4])), (g1, .inl (E.2.1, 81, .inl u_30))]) hP hD [0, 1] [] rfl rfl (by decide) (by decide) hk1 hFc hP1 hD1
      generalize H1 = H at hP hS ⊢
      have hP : va_P E.1 vwCl [(h, .inr (6, [.ref g1, .ref g2, .int ka, .int ko, .ref g3, .ref g4])), (g1, .inl (E.2.1, 81, .inl u_30))] H := hP
      have hD : va_D A [(h, .inr (6, [.ref g1, .ref g2, .int ka, .int ko, .ref g3, .ref g4])), (g1, .inl (E.2.1, 81, .inl u_30))] := hD
      have hsw_31 := hw
      have kk_32 := hsw_31
      refine lv_aload_n hx hb dX5_hearPlaces_36 rfl (lv_at hl 0 rfl) ?_
      refine lv_iload_n hx hb dX5_hearPlaces_37 rfl (lv_at hl 1 rfl) ?_
      refine lv_iconst (v := 3) hx hb dX5_hearPlaces_38 (by decide) ?_
      refine lv_aload_n hx hb dX5_hearPlaces_39 rfl (lv_at hl 0 rfl) ?_
      refine lv_iload_n hx hb dX5_hearPlaces_40 rfl (lv_at hl 1 rfl) ?_
      refine lv_iconst (v := 1) hx hb dX5_hearPlaces_41 (by decide) ?_
      have hPc := hP.sub (ws' := [(h, .inr (6, [.ref g1, .ref g2, .int ka, .int ko, .ref g3, .ref g4])), (g1, .inl (E.2.1, 81, .inl u_30))]) [0, 1] rfl
      refine pc_i (va_runV (As := [.int (nI i), .int 1]) (rest := [.int 3, .int (nI i), .ref h]) ⟨hx, hb, hml, hown, hts⟩ (s_of l E h g1 g2 g3 g4 k ka ko u_30 (nI i) 1 kk_32 (by omega)) (cwV 2 hts g_s_hearPlaces_s_of_69 rfl rfl rfl (by decide +kernel) ⟨Nat.le_of_ble_eq_true rfl, Nat.le_of_ble_eq_true rfl⟩) ⟨pP.blind, va_recv hK hPc (ci := 6) (q0 := 0) rfl rfl, (pP.pre ⟨hK, hN⟩ hPc)⟩ rfl rfl hl.1 rfl (lv_room (Nat.le_of_ble_eq_true rfl)) dX5_hearPlaces_42 ⟨Nat.le_of_ble_eq_true rfl, Nat.le_of_ble_eq_true rfl⟩) (fun r_33 hr_33 => ?_)
      have hPc := hP.sub (ws' := [(h, .inr (6, [.ref g1, .ref g2, .int ka, .int ko, .ref g3, .ref g4])), (g1, .inl (E.2.1, 81, .inl u_30))]) [0, 1] rfl
      have hDc := hD.sub (ws' := [(h, .inr (6, [.ref g1, .ref g2, .int ka, .int ko, .ref g3, .ref g4])), (g1, .inl (E.2.1, 81, .inl u_30))]) [0, 1] (by decide) rfl
      have hFc := va_free (wc := [(h, .inr (6, [.ref g1, .ref g2, .int ka, .int ko, .ref g3, .ref g4])), (g1, .inl (E.2.1, 81, .inl u_30))]) hD hS hA [0, 1] rfl
      refine va_callv (va_runV (As := [.int (nI i), .int 3, .int r_33]) (rest := []) ⟨hx, hb, hml, hown, hts⟩ (s_put l E H.size h g1 g2 g3 g4 k ka ko u_30 (nI i) 3 r_33 kk_32 (by omega)) (cwV 3 hts g_s_hearPlaces_s_put_52 rfl rfl rfl (by decide +kernel) ⟨Nat.le_of_ble_eq_true rfl, Nat.le_of_ble_eq_true rfl⟩) ⟨pW.blind, va_recv hK hPc (ci := 6) (q0 := 0) rfl rfl, (pW.pre ⟨hK, hN⟩ hPc hDc)⟩ rfl rfl hl.1 rfl (lv_room (Nat.le_of_ble_eq_true rfl)) dX5_hearPlaces_45 ⟨Nat.le_of_ble_eq_true rfl, Nat.le_of_ble_eq_true rfl⟩) hS (fun q _ h => hFc q h) hFc (fun  u_34 tt H1 locs ht hvm hw hB hz1 hk1 hS => ?_)
      obtain ⟨hP1, hD1⟩ := hB
      rw [ht] at hP1
      obtain ⟨hP, hD⟩ := va_join (wr := []) (w1 := [(h, .inr (6, [.ref g1, .ref g2, .int ka, .int ko, .ref g3, .ref g4])), (g1, .inl (E.2.1, 81, .inl u_34))]) hP hD [0, 1] [] rfl rfl (by decide) (by decide) hk1 hFc hP1 hD1
      generalize H1 = H at hP hS ⊢
      have hP : va_P E.1 vwCl [(h, .inr (6, [.ref g1, .ref g2, .int ka, .int ko, .ref g3, .ref g4])), (g1, .inl (E.2.1, 81, .inl u_34))] H := hP
      have hD : va_D A [(h, .inr (6, [.ref g1, .ref g2, .int ka, .int ko, .ref g3, .ref g4])), (g1, .inl (E.2.1, 81, .inl u_34))] := hD
      have hsw_35 := hw
      have kk_36 := hsw_35
      refine lv_aload_n hx hb dX5_hearPlaces_48 rfl (lv_at hl 0 rfl) ?_
      refine lv_iload_n hx hb dX5_hearPlaces_49 rfl (lv_at hl 1 rfl) ?_
      refine lv_iconst (v := 4) hx hb dX5_hearPlaces_50 (by decide) ?_
      refine lv_iconst (v := 0) hx hb dX5_hearPlaces_51 (by decide) ?_
      have hPc := hP.sub (ws' := [(h, .inr (6, [.ref g1, .ref g2, .int ka, .int ko, .ref g3, .ref g4])), (g1, .inl (E.2.1, 81, .inl u_34))]) [0, 1] rfl
      have hDc := hD.sub (ws' := [(h, .inr (6, [.ref g1, .ref g2, .int ka, .int ko, .ref g3, .ref g4])), (g1, .inl (E.2.1, 81, .inl u_34))]) [0, 1] (by decide) rfl
      have hFc := va_free (wc := [(h, .inr (6, [.ref g1, .ref g2, .int ka, .int ko, .ref g3, .ref g4])), (g1, .inl (E.2.1, 81, .inl u_34))]) hD hS hA [0, 1] rfl
      refine va_callv (va_runV (As := [.int (nI i), .int 4, .int 0]) (rest := []) ⟨hx, hb, hml, hown, hts⟩ (s_put l E H.size h g1 g2 g3 g4 k ka ko u_34 (nI i) 4 0 kk_36 (by omega)) (cwV 3 hts g_s_hearPlaces_s_put_52 rfl rfl rfl (by decide +kernel) ⟨Nat.le_of_ble_eq_true rfl, Nat.le_of_ble_eq_true rfl⟩) ⟨pW.blind, va_recv hK hPc (ci := 6) (q0 := 0) rfl rfl, (pW.pre ⟨hK, hN⟩ hPc hDc)⟩ rfl rfl hl.1 rfl (lv_room (Nat.le_of_ble_eq_true rfl)) dX5_hearPlaces_52 ⟨Nat.le_of_ble_eq_true rfl, Nat.le_of_ble_eq_true rfl⟩) hS (fun q _ h => hFc q h) hFc (fun  u_37 tt H1 locs ht hvm hw hB hz1 hk1 hS => ?_)
      obtain ⟨hP1, hD1⟩ := hB
      rw [ht] at hP1
      obtain ⟨hP, hD⟩ := va_join (wr := []) (w1 := [(h, .inr (6, [.ref g1, .ref g2, .int ka, .int ko, .ref g3, .ref g4])), (g1, .inl (E.2.1, 81, .inl u_37))]) hP hD [0, 1] [] rfl rfl (by decide) (by decide) hk1 hFc hP1 hD1
      generalize H1 = H at hP hS ⊢
      have hP : va_P E.1 vwCl [(h, .inr (6, [.ref g1, .ref g2, .int ka, .int ko, .ref g3, .ref g4])), (g1, .inl (E.2.1, 81, .inl u_37))] H := hP
      have hD : va_D A [(h, .inr (6, [.ref g1, .ref g2, .int ka, .int ko, .ref g3, .ref g4])), (g1, .inl (E.2.1, 81, .inl u_37))] := hD
      have hsw_38 := hw
      have kk_39 := hsw_38
      refine lv_aload_n hx hb dX5_hearPlaces_55 rfl (lv_at hl 0 rfl) ?_
      refine lv_iload_n hx hb dX5_hearPlaces_56 rfl (lv_at hl 1 rfl) ?_
      refine lv_iconst (v := 5) hx hb dX5_hearPlaces_57 (by decide) ?_
      refine lv_iconst (v := 0) hx hb dX5_hearPlaces_58 (by decide) ?_
      have hPc := hP.sub (ws' := [(h, .inr (6, [.ref g1, .ref g2, .int ka, .int ko, .ref g3, .ref g4])), (g1, .inl (E.2.1, 81, .inl u_37))]) [0, 1] rfl
      have hDc := hD.sub (ws' := [(h, .inr (6, [.ref g1, .ref g2, .int ka, .int ko, .ref g3, .ref g4])), (g1, .inl (E.2.1, 81, .inl u_37))]) [0, 1] (by decide) rfl
      have hFc := va_free (wc := [(h, .inr (6, [.ref g1, .ref g2, .int ka, .int ko, .ref g3, .ref g4])), (g1, .inl (E.2.1, 81, .inl u_37))]) hD hS hA [0, 1] rfl
      refine va_callv (va_runV (As := [.int (nI i), .int 5, .int 0]) (rest := []) ⟨hx, hb, hml, hown, hts⟩ (s_put l E H.size h g1 g2 g3 g4 k ka ko u_37 (nI i) 5 0 kk_39 (by omega)) (cwV 3 hts g_s_hearPlaces_s_put_52 rfl rfl rfl (by decide +kernel) ⟨Nat.le_of_ble_eq_true rfl, Nat.le_of_ble_eq_true rfl⟩) ⟨pW.blind, va_recv hK hPc (ci := 6) (q0 := 0) rfl rfl, (pW.pre ⟨hK, hN⟩ hPc hDc)⟩ rfl rfl hl.1 rfl (lv_room (Nat.le_of_ble_eq_true rfl)) dX5_hearPlaces_59 ⟨Nat.le_of_ble_eq_true rfl, Nat.le_of_ble_eq_true rfl⟩) hS (fun q _ h => hFc q h) hFc (fun  u_40 tt H1 locs ht hvm hw hB hz1 hk1 hS => ?_)
      obtain ⟨hP1, hD1⟩ := hB
      rw [ht] at hP1
      obtain ⟨hP, hD⟩ := va_join (wr := []) (w1 := [(h, .inr (6, [.ref g1, .ref g2, .int ka, .int ko, .ref g3, .ref g4])), (g1, .inl (E.2.1, 81, .inl u_40))]) hP hD [0, 1] [] rfl rfl (by decide) (by decide) hk1 hFc hP1 hD1
      generalize H1 = H at hP hS ⊢
      have hP : va_P E.1 vwCl [(h, .inr (6, [.ref g1, .ref g2, .int ka, .int ko, .ref g3, .ref g4])), (g1, .inl (E.2.1, 81, .inl u_40))] H := hP
      have hD : va_D A [(h, .inr (6, [.ref g1, .ref g2, .int ka, .int ko, .ref g3, .ref g4])), (g1, .inl (E.2.1, 81, .inl u_40))] := hD
      have hsw_41 := hw
      have kk_42 := hsw_41
      refine lv_aload_n hx hb dX5_hearPlaces_62 rfl (lv_at hl 0 rfl) ?_
      refine va_get (D := E.1) (ci := 6) (v := .ref g1) (C := RX5) (T := TX5) (N := 6) hx hb hts i_s_hearPlaces_X5 hown hK hP 0 rfl rfl 0 (by decide) (hts (.fieldLink RX5 11 "HushWatch$State" "row" "[I") (List.mem_of_getElem? (i := 1) rfl)) (fun _ h9 => h9) rfl dX5_hearPlaces_63 ?_
      refine lv_iconst (v := 4) hx hb dX5_hearPlaces_66 (by decide) ?_
      refine lv_dup2_11 hx hb dX5_hearPlaces_67 rfl rfl ?_
      refine va_iald hx hb hK hP 1 0 rfl rfl (vin rfl) dX5_hearPlaces_68 ?_
      refine W.eq (g2 := F0 m 69 ls [.int (u_40 4), .int 4, .ref g1]) rfl ?_
      refine lv_topi (fun z_43 ez_43 => ?_)
      refine lv_aload_n hx hb dX5_hearPlaces_69 rfl (lv_at hl 0 rfl) ?_
      refine lv_iload_n hx hb dX5_hearPlaces_70 rfl (lv_at hl 1 rfl) ?_
      refine lv_iconst (v := 0) hx hb dX5_hearPlaces_71 (by decide) ?_
      have hPc := hP.sub (ws' := [(h, .inr (6, [.ref g1, .ref g2, .int ka, .int ko, .ref g3, .ref g4])), (g1, .inl (E.2.1, 81, .inl u_40))]) [0, 1] rfl
      refine pc_i (va_runV (As := [.int (nI i), .int 0]) (rest := [.int z_43, .int 4, .ref g1]) ⟨hx, hb, hml, hown, hts⟩ (s_of l E h g1 g2 g3 g4 k ka ko u_40 (nI i) 0 kk_42 (by omega)) (cwV 2 hts g_s_hearPlaces_s_of_69 rfl rfl rfl (by decide +kernel) ⟨Nat.le_of_ble_eq_true rfl, Nat.le_of_ble_eq_true rfl⟩) ⟨pP.blind, va_recv hK hPc (ci := 6) (q0 := 0) rfl rfl, (pP.pre ⟨hK, hN⟩ hPc)⟩ rfl rfl hl.1 rfl (lv_room (Nat.le_of_ble_eq_true rfl)) dX5_hearPlaces_72 ⟨Nat.le_of_ble_eq_true rfl, Nat.le_of_ble_eq_true rfl⟩) (fun r_44 hr_44 => ?_)
      refine lv_iadd hx hb dX5_hearPlaces_75 ?_
      refine lv_topi (fun z_45 ez_45 => ?_)
      refine va_iast hx hb hK hP hD hS 1 0 rfl rfl (vin rfl) dX5_hearPlaces_76 (fun H locs hP hD hS => ?_)
      have hP : va_P E.1 vwCl [(h, .inr (6, [.ref g1, .ref g2, .int ka, .int ko, .ref g3, .ref g4])), (g1, .inl (E.2.1, 81, .inl (upd u_40 (4 : Int32).toNatClampNeg z_45)))] H := hP
      have hD : va_D A [(h, .inr (6, [.ref g1, .ref g2, .int ka, .int ko, .ref g3, .ref g4])), (g1, .inl (E.2.1, 81, .inl (upd u_40 (4 : Int32).toNatClampNeg z_45)))] := hD
      obtain ⟨f_46, hf_46⟩ : ∃ g : Nat → Int32, g = upd u_40 (4 : Int32).toNatClampNeg z_45 := ⟨_, rfl⟩
      rw [← hf_46] at hP hD
      have kf_46_3 : f_46 3 = nI k := by rw [hf_46]; exact (upd_ne (by decide)).trans kk_42
      refine lv_aload_n hx hb dX5_hearPlaces_77 rfl (lv_at hl 0 rfl) ?_
      refine va_get (D := E.1) (ci := 6) (v := .ref g1) (C := RX5) (T := TX5) (N := 6) hx hb hts i_s_hearPlaces_X5 hown hK hP 0 rfl rfl 0 (by decide) (hts (.fieldLink RX5 11 "HushWatch$State" "row" "[I") (List.mem_of_getElem? (i := 1) rfl)) (fun _ h9 => h9) rfl dX5_hearPlaces_78 ?_
      refine lv_iconst (v := 5) hx hb dX5_hearPlaces_81 (by decide) ?_
      refine lv_dup2_11 hx hb dX5_hearPlaces_82 rfl rfl ?_
      refine va_iald hx hb hK hP 1 0 rfl rfl (vin rfl) dX5_hearPlaces_83 ?_
      refine W.eq (g2 := F0 m 84 ls [.int (f_46 5), .int 5, .ref g1]) rfl ?_
      refine lv_topi (fun z_47 ez_47 => ?_)
      refine lv_aload_n hx hb dX5_hearPlaces_84 rfl (lv_at hl 0 rfl) ?_
      refine lv_iload_n hx hb dX5_hearPlaces_85 rfl (lv_at hl 1 rfl) ?_
      refine lv_iconst (v := 1) hx hb dX5_hearPlaces_86 (by decide) ?_
      have hPc := hP.sub (ws' := [(h, .inr (6, [.ref g1, .ref g2, .int ka, .int ko, .ref g3, .ref g4])), (g1, .inl (E.2.1, 81, .inl f_46))]) [0, 1] rfl
      refine pc_i (va_runV (As := [.int (nI i), .int 1]) (rest := [.int z_47, .int 5, .ref g1]) ⟨hx, hb, hml, hown, hts⟩ (s_of l E h g1 g2 g3 g4 k ka ko f_46 (nI i) 1 kf_46_3 (by omega)) (cwV 2 hts g_s_hearPlaces_s_of_69 rfl rfl rfl (by decide +kernel) ⟨Nat.le_of_ble_eq_true rfl, Nat.le_of_ble_eq_true rfl⟩) ⟨pP.blind, va_recv hK hPc (ci := 6) (q0 := 0) rfl rfl, (pP.pre ⟨hK, hN⟩ hPc)⟩ rfl rfl hl.1 rfl (lv_room (Nat.le_of_ble_eq_true rfl)) dX5_hearPlaces_87 ⟨Nat.le_of_ble_eq_true rfl, Nat.le_of_ble_eq_true rfl⟩) (fun r_48 hr_48 => ?_)
      refine lv_iadd hx hb dX5_hearPlaces_90 ?_
      refine lv_topi (fun z_49 ez_49 => ?_)
      refine va_iast hx hb hK hP hD hS 1 0 rfl rfl (vin rfl) dX5_hearPlaces_91 (fun H locs hP hD hS => ?_)
      have hP : va_P E.1 vwCl [(h, .inr (6, [.ref g1, .ref g2, .int ka, .int ko, .ref g3, .ref g4])), (g1, .inl (E.2.1, 81, .inl (upd f_46 (5 : Int32).toNatClampNeg z_49)))] H := hP
      have hD : va_D A [(h, .inr (6, [.ref g1, .ref g2, .int ka, .int ko, .ref g3, .ref g4])), (g1, .inl (E.2.1, 81, .inl (upd f_46 (5 : Int32).toNatClampNeg z_49)))] := hD
      obtain ⟨f_50, hf_50⟩ : ∃ g : Nat → Int32, g = upd f_46 (5 : Int32).toNatClampNeg z_49 := ⟨_, rfl⟩
      rw [← hf_50] at hP hD
      have kf_50_3 : f_50 3 = nI k := by rw [hf_50]; exact (upd_ne (by decide)).trans kf_46_3
      refine lv_iinc (v := nI (i + 1)) (lv' := [(1, .int (nI (i + 1))), (0, .ref h)]) hx hb dX5_hearPlaces_92 hl (k := 1) rfl (show nI (i) + 1 = nI (i + 1) from nI_add _ 1) (by decide) rfl (fun ls hl => ?_)
      refine lv_goto (tgt := 16) hx hb dX5_hearPlaces_95 (by decide) ?_
      exact ih (i + 1) f_50 H locs ls (by omega) kf_50_3 (by omega) (hP.sub [0, 1] rfl) (hD.sub [0, 1] (by decide) rfl) hS (lv_sub hl [1, 0] rfl)

set_option maxHeartbeats 4000000 in
set_option maxRecDepth 100000 in
theorem s_hearPlaces (l : Launch) (E : EE) (sz : Nat) (h g1 g2 g3 g4 k : Nat) (ka ko : Int32) (f : Nat → Int32) (hk : f 3 = nI k) (hk8 : k ≤ 8) : Met l yX5_hearPlaces v_s_hearPlaces ({ frames := 1, cells := 0, slots := 0, locals := 23 }) (va_Pc [.ref h] (pW E sz [(h, .inr (6, [.ref g1, .ref g2, .int ka, .int ko, .ref g3, .ref g4])), (g1, .inl (E.2.1, 81, .inl f))])) (va_Qv (fun (f1 : Nat → Int32) => f1 3 = nI k) (fun (f1 : Nat → Int32) tt => va_P E.1 vwCl [(h, .inr (6, [.ref g1, .ref g2, .int ka, .int ko, .ref g3, .ref g4])), (g1, .inl (E.2.1, 81, .inl f1))] tt.heap ∧ va_D (va_A [(h, .inr (6, [.ref g1, .ref g2, .int ka, .int ko, .ref g3, .ref g4])), (g1, .inl (E.2.1, 81, .inl f))] sz) [(h, .inr (6, [.ref g1, .ref g2, .int ka, .int ko, .ref g3, .ref g4])), (g1, .inl (E.2.1, 81, .inl f1))]) (va_A [(h, .inr (6, [.ref g1, .ref g2, .int ka, .int ko, .ref g3, .ref g4])), (g1, .inl (E.2.1, 81, .inl f))] sz)) 0 0 (va_A [(h, .inr (6, [.ref g1, .ref g2, .int ka, .int ko, .ref g3, .ref g4])), (g1, .inl (E.2.1, 81, .inl f))] sz) := by
  refine Met.ofW (cc := cX5_hearPlaces) (maxL := 2) (ret := none) (by decide) rfl ?_
  intro p e s m args below meth c s₁ B hml hv
  obtain ⟨rfl, hsz, ⟨hK, hN⟩, hP, hD0⟩ := hv
  have hx := B.exec
  have hb := B.bytes
  have hr := B.returns
  have hts := atoms_spec (ws := v_s_hearPlaces) B.pre
  have hown : s.vm.findClass RX5 = some m.cls := findClass_of_methodNamed B.named
  have hlocks := B.notSynchronized
  subst hsz
  have hD := hD0.self (sz := s.heap.size)
  generalize hAe : va_A [(h, .inr (6, [.ref g1, .ref g2, .int ka, .int ko, .ref g3, .ref g4])), (g1, .inl (E.2.1, 81, .inl f))] s.heap.size = A at hD ⊢
  have hA : ∀ q : Nat, s.heap.size ≤ q → A q := fun q h => by rw [← hAe]; exact Or.inr h
  have hS : va_S A s.heap s.heap [] := va_S.rf
  have hP : va_P E.1 vwCl [(h, .inr (6, [.ref g1, .ref g2, .int ka, .int ko, .ref g3, .ref g4])), (g1, .inl (E.2.1, 81, .inl f))] s.heap := hP
  have hl := lv_entry ([.ref h]) (n := 2) (Nat.le_of_ble_eq_true rfl)
  rw [lg_entry_eq]
  generalize (lg_sl ([.ref h]) ++ List.replicate (2 - (lg_sl ([.ref h])).length) Slot.unset).toArray = ls at hl ⊢
  have hl : lv_has ls 2 [(0, .ref h)] := hl
  obtain ⟨Q, hQ⟩ : ∃ Q : State → Prop, Q = MQ below (va_Qv (fun (f1 : Nat → Int32) => f1 3 = nI k) (fun (f1 : Nat → Int32) tt => va_P E.1 vwCl [(h, .inr (6, [.ref g1, .ref g2, .int ka, .int ko, .ref g3, .ref g4])), (g1, .inl (E.2.1, 81, .inl f1))] tt.heap ∧ va_D A [(h, .inr (6, [.ref g1, .ref g2, .int ka, .int ko, .ref g3, .ref g4])), (g1, .inl (E.2.1, 81, .inl f1))]) A) #[Value.ref h] s 0 0 A := ⟨_, rfl⟩
  rw [← hQ]
  change W p l e ({ frames := 1, cells := 0, slots := 0, locals := 23 } : Room) s m #[Value.ref h] below meth c s.heap [] 0 0 Q (F0 m 0 ls [])
  refine lv_aload_n hx hb dX5_hearPlaces_0 rfl (lv_at hl 0 rfl) ?_
  refine va_get (D := E.1) (ci := 6) (v := .ref g1) (C := RX5) (T := TX5) (N := 6) hx hb hts i_s_hearPlaces_X5 hown hK hP 0 rfl rfl 0 (by decide) (hts (.fieldLink RX5 11 "HushWatch$State" "row" "[I") (List.mem_of_getElem? (i := 1) rfl)) (fun _ h9 => h9) rfl dX5_hearPlaces_1 ?_
  refine lv_iconst (v := 4) hx hb dX5_hearPlaces_4 (by decide) ?_
  refine lv_iconst (v := 0) hx hb dX5_hearPlaces_5 (by decide) ?_
  refine va_iast hx hb hK hP hD hS 1 0 rfl rfl (vin rfl) dX5_hearPlaces_6 (fun H locs hP hD hS => ?_)
  have hP : va_P E.1 vwCl [(h, .inr (6, [.ref g1, .ref g2, .int ka, .int ko, .ref g3, .ref g4])), (g1, .inl (E.2.1, 81, .inl (upd f (4 : Int32).toNatClampNeg 0)))] H := hP
  have hD : va_D A [(h, .inr (6, [.ref g1, .ref g2, .int ka, .int ko, .ref g3, .ref g4])), (g1, .inl (E.2.1, 81, .inl (upd f (4 : Int32).toNatClampNeg 0)))] := hD
  obtain ⟨f_1, hf_1⟩ : ∃ g : Nat → Int32, g = upd f (4 : Int32).toNatClampNeg 0 := ⟨_, rfl⟩
  rw [← hf_1] at hP hD
  have kf_1_3 : f_1 3 = nI k := by rw [hf_1]; exact (upd_ne (by decide)).trans hk
  refine lv_aload_n hx hb dX5_hearPlaces_7 rfl (lv_at hl 0 rfl) ?_
  refine va_get (D := E.1) (ci := 6) (v := .ref g1) (C := RX5) (T := TX5) (N := 6) hx hb hts i_s_hearPlaces_X5 hown hK hP 0 rfl rfl 0 (by decide) (hts (.fieldLink RX5 11 "HushWatch$State" "row" "[I") (List.mem_of_getElem? (i := 1) rfl)) (fun _ h9 => h9) rfl dX5_hearPlaces_8 ?_
  refine lv_iconst (v := 5) hx hb dX5_hearPlaces_11 (by decide) ?_
  refine lv_iconst (v := 0) hx hb dX5_hearPlaces_12 (by decide) ?_
  refine va_iast hx hb hK hP hD hS 1 0 rfl rfl (vin rfl) dX5_hearPlaces_13 (fun H locs hP hD hS => ?_)
  have hP : va_P E.1 vwCl [(h, .inr (6, [.ref g1, .ref g2, .int ka, .int ko, .ref g3, .ref g4])), (g1, .inl (E.2.1, 81, .inl (upd f_1 (5 : Int32).toNatClampNeg 0)))] H := hP
  have hD : va_D A [(h, .inr (6, [.ref g1, .ref g2, .int ka, .int ko, .ref g3, .ref g4])), (g1, .inl (E.2.1, 81, .inl (upd f_1 (5 : Int32).toNatClampNeg 0)))] := hD
  obtain ⟨f_2, hf_2⟩ : ∃ g : Nat → Int32, g = upd f_1 (5 : Int32).toNatClampNeg 0 := ⟨_, rfl⟩
  rw [← hf_2] at hP hD
  have kf_2_3 : f_2 3 = nI k := by rw [hf_2]; exact (upd_ne (by decide)).trans kf_1_3
  refine lv_iconst (v := 0) hx hb dX5_hearPlaces_14 (by decide) ?_
  refine lv_istore_n (lv' := [(1, .int 0), (0, .ref h)]) hx hb dX5_hearPlaces_15 rfl hl (by decide) rfl (fun ls hl => ?_)
  refine lp_s_hearPlaces_16 (h := h) (g1 := g1) (g2 := g2) (g3 := g3) (g4 := g4) (k := k) (ka := ka) (ko := ko) (f := f) l E hk hk8 hx hb hml hown hts hK hN hA ?_ (10) 0 f_2 H locs ls (by omega) kf_2_3 (by omega) (hP.sub [0, 1] rfl) (hD.sub [0, 1] (by decide) rfl) hS (lv_sub hl [1, 0] rfl)
  ·
    intro i f1 H locs ls hi kf1_3 hP hD hS hl
    rw [hQ]
    have hP9 := hP.sub (ws' := [(h, .inr (6, [.ref g1, .ref g2, .int ka, .int ko, .ref g3, .ref g4])), (g1, .inl (E.2.1, 81, .inl f1))]) [0, 1] rfl
    have hD9 := hD.sub (ws' := [(h, .inr (6, [.ref g1, .ref g2, .int ka, .int ko, .ref g3, .ref g4])), (g1, .inl (E.2.1, 81, .inl f1))]) [0, 1] (by decide) rfl
    exact W.vret hx hb hr (fun tt ht hW => ⟨⟨f1, rfl, kf1_3, by rw [ht]; exact hP9, hD9⟩, hS.F ht⟩) hS.2.2 dX5_hearPlaces_98

def v_s_hearAll : List Cond := .code yX5_hearAll cX5_hearAll 2 none :: ([.fieldLink RX5 11 "HushWatch$State" "row" "[I", .methodLink RX5 56 yX5_hearPlaces, .instanceMethod yX5_hearPlaces, .selects RX5 yX5_hearPlaces yX5_hearPlaces, .initialized RX5, .methodLink RX5 59 yX5_allows, .instanceMethod yX5_allows, .selects RX5 yX5_allows yX5_allows] ++ (v_s_hearPlaces ++ (wsX50 ++ (v_s_allows ++ ([])))))
theorem gw_s_hearAll : v_s_hearAll.all goodWord = true := by decide +kernel
theorem i_s_hearAll_X5 : ∀ w ∈ wsX50, w ∈ v_s_hearAll := fun _ h => List.mem_cons_of_mem _ (List.mem_append_right _ (List.mem_append_right _ (List.mem_append_left _ h)))
theorem g_s_hearAll_s_hearPlaces_56 : GoodIn v_s_hearAll (wsV RX5 56 RX5 yX5_hearPlaces v_s_hearPlaces) := goodIn_app (goodIn_of _ (by decide +kernel)) (goodIn_sub (fun _ h => List.mem_cons_of_mem _ (List.mem_append_right _ (List.mem_append_left _ h))) gw_s_hearPlaces)
theorem g_s_hearAll_s_allows_59 : GoodIn v_s_hearAll (wsV RX5 59 RX5 yX5_allows v_s_allows) := goodIn_app (goodIn_of _ (by decide +kernel)) (goodIn_sub (fun _ h => List.mem_cons_of_mem _ (List.mem_append_right _ (List.mem_append_right _ (List.mem_append_right _ (List.mem_append_left _ h))))) gw_s_allows)
set_option maxHeartbeats 4000000 in
set_option maxRecDepth 100000 in
theorem s_hearAll (l : Launch) (E : EE) (sz : Nat) (h g1 g2 g3 g4 k : Nat) (ka ko : Int32) (f : Nat → Int32) (hk : f 3 = nI k) (hk8 : k ≤ 8) : Met l yX5_hearAll v_s_hearAll ({ frames := 2, cells := 0, slots := 0, locals := 52 }) (va_Pc [.ref h] (pW E sz [(h, .inr (6, [.ref g1, .ref g2, .int ka, .int ko, .ref g3, .ref g4])), (g1, .inl (E.2.1, 81, .inl f))])) (va_Qv (fun (f1 : Nat → Int32) => f1 3 = nI k) (fun (f1 : Nat → Int32) tt => va_P E.1 vwCl [(h, .inr (6, [.ref g1, .ref g2, .int ka, .int ko, .ref g3, .ref g4])), (g1, .inl (E.2.1, 81, .inl f1))] tt.heap ∧ va_D (va_A [(h, .inr (6, [.ref g1, .ref g2, .int ka, .int ko, .ref g3, .ref g4])), (g1, .inl (E.2.1, 81, .inl f))] sz) [(h, .inr (6, [.ref g1, .ref g2, .int ka, .int ko, .ref g3, .ref g4])), (g1, .inl (E.2.1, 81, .inl f1))]) (va_A [(h, .inr (6, [.ref g1, .ref g2, .int ka, .int ko, .ref g3, .ref g4])), (g1, .inl (E.2.1, 81, .inl f))] sz)) 0 0 (va_A [(h, .inr (6, [.ref g1, .ref g2, .int ka, .int ko, .ref g3, .ref g4])), (g1, .inl (E.2.1, 81, .inl f))] sz) := by
  refine Met.ofW (cc := cX5_hearAll) (maxL := 2) (ret := none) (by decide) rfl ?_
  intro p e s m args below meth c s₁ B hml hv
  obtain ⟨rfl, hsz, ⟨hK, hN⟩, hP, hD0⟩ := hv
  have hx := B.exec
  have hb := B.bytes
  have hr := B.returns
  have hts := atoms_spec (ws := v_s_hearAll) B.pre
  have hown : s.vm.findClass RX5 = some m.cls := findClass_of_methodNamed B.named
  have hlocks := B.notSynchronized
  subst hsz
  have hD := hD0.self (sz := s.heap.size)
  generalize hAe : va_A [(h, .inr (6, [.ref g1, .ref g2, .int ka, .int ko, .ref g3, .ref g4])), (g1, .inl (E.2.1, 81, .inl f))] s.heap.size = A at hD ⊢
  have hA : ∀ q : Nat, s.heap.size ≤ q → A q := fun q h => by rw [← hAe]; exact Or.inr h
  have hS : va_S A s.heap s.heap [] := va_S.rf
  have hP : va_P E.1 vwCl [(h, .inr (6, [.ref g1, .ref g2, .int ka, .int ko, .ref g3, .ref g4])), (g1, .inl (E.2.1, 81, .inl f))] s.heap := hP
  have hl := lv_entry ([.ref h]) (n := 2) (Nat.le_of_ble_eq_true rfl)
  rw [lg_entry_eq]
  generalize (lg_sl ([.ref h]) ++ List.replicate (2 - (lg_sl ([.ref h])).length) Slot.unset).toArray = ls at hl ⊢
  have hl : lv_has ls 2 [(0, .ref h)] := hl
  obtain ⟨Q, hQ⟩ : ∃ Q : State → Prop, Q = MQ below (va_Qv (fun (f1 : Nat → Int32) => f1 3 = nI k) (fun (f1 : Nat → Int32) tt => va_P E.1 vwCl [(h, .inr (6, [.ref g1, .ref g2, .int ka, .int ko, .ref g3, .ref g4])), (g1, .inl (E.2.1, 81, .inl f1))] tt.heap ∧ va_D A [(h, .inr (6, [.ref g1, .ref g2, .int ka, .int ko, .ref g3, .ref g4])), (g1, .inl (E.2.1, 81, .inl f1))]) A) #[Value.ref h] s 0 0 A := ⟨_, rfl⟩
  rw [← hQ]
  change W p l e ({ frames := 2, cells := 0, slots := 0, locals := 52 } : Room) s m #[Value.ref h] below meth c s.heap [] 0 0 Q (F0 m 0 ls [])
  refine lv_aload_n hx hb dX5_hearAll_0 rfl (lv_at hl 0 rfl) ?_
  have hPc := hP.sub (ws' := [(h, .inr (6, [.ref g1, .ref g2, .int ka, .int ko, .ref g3, .ref g4])), (g1, .inl (E.2.1, 81, .inl f))]) [0, 1] rfl
  have hDc := hD.sub (ws' := [(h, .inr (6, [.ref g1, .ref g2, .int ka, .int ko, .ref g3, .ref g4])), (g1, .inl (E.2.1, 81, .inl f))]) [0, 1] (by decide) rfl
  have hFc := va_free (wc := [(h, .inr (6, [.ref g1, .ref g2, .int ka, .int ko, .ref g3, .ref g4])), (g1, .inl (E.2.1, 81, .inl f))]) hD hS hA [0, 1] rfl
  refine va_callv (va_runV (As := []) (rest := []) ⟨hx, hb, hml, hown, hts⟩ (s_hearPlaces l E s.heap.size h g1 g2 g3 g4 k ka ko f hk (by omega)) (cwV 0 hts g_s_hearAll_s_hearPlaces_56 rfl rfl rfl (by decide +kernel) ⟨Nat.le_of_ble_eq_true rfl, Nat.le_of_ble_eq_true rfl⟩) ⟨pW.blind, va_recv hK hPc (ci := 6) (q0 := 0) rfl rfl, (pW.pre ⟨hK, hN⟩ hPc hDc)⟩ rfl rfl hl.1 rfl (lv_room (Nat.le_of_ble_eq_true rfl)) dX5_hearAll_1 ⟨Nat.le_of_ble_eq_true rfl, Nat.le_of_ble_eq_true rfl⟩) hS (fun q _ h => hFc q h) hFc (fun  u_1 tt H1 locs ht hvm hw hB hz1 hk1 hS => ?_)
  obtain ⟨hP1, hD1⟩ := hB
  rw [ht] at hP1
  obtain ⟨hP, hD⟩ := va_join (wr := []) (w1 := [(h, .inr (6, [.ref g1, .ref g2, .int ka, .int ko, .ref g3, .ref g4])), (g1, .inl (E.2.1, 81, .inl u_1))]) hP hD [0, 1] [] rfl rfl (by decide) (by decide) hk1 hFc hP1 hD1
  generalize H1 = H at hP hS ⊢
  have hP : va_P E.1 vwCl [(h, .inr (6, [.ref g1, .ref g2, .int ka, .int ko, .ref g3, .ref g4])), (g1, .inl (E.2.1, 81, .inl u_1))] H := hP
  have hD : va_D A [(h, .inr (6, [.ref g1, .ref g2, .int ka, .int ko, .ref g3, .ref g4])), (g1, .inl (E.2.1, 81, .inl u_1))] := hD
  have hsw_2 := hw
  have kk_3 := hsw_2
  refine lv_aload_n hx hb dX5_hearAll_4 rfl (lv_at hl 0 rfl) ?_
  refine va_get (D := E.1) (ci := 6) (v := .ref g1) (C := RX5) (T := TX5) (N := 6) hx hb hts i_s_hearAll_X5 hown hK hP 0 rfl rfl 0 (by decide) (hts (.fieldLink RX5 11 "HushWatch$State" "row" "[I") (List.mem_of_getElem? (i := 1) rfl)) (fun _ h9 => h9) rfl dX5_hearAll_5 ?_
  refine lv_bipush (v := 14) hx hb dX5_hearAll_8 (by decide) ?_
  refine lv_dup2_11 hx hb dX5_hearAll_10 rfl rfl ?_
  refine va_iald hx hb hK hP 1 0 rfl rfl (vin rfl) dX5_hearAll_11 ?_
  refine W.eq (g2 := F0 m 12 ls [.int (u_1 14), .int 14, .ref g1]) rfl ?_
  refine lv_topi (fun z_4 ez_4 => ?_)
  refine lv_iconst (v := 1) hx hb dX5_hearAll_12 (by decide) ?_
  refine lv_iadd hx hb dX5_hearAll_13 ?_
  refine lv_topi (fun z_5 ez_5 => ?_)
  refine va_iast hx hb hK hP hD hS 1 0 rfl rfl (vin rfl) dX5_hearAll_14 (fun H locs hP hD hS => ?_)
  have hP : va_P E.1 vwCl [(h, .inr (6, [.ref g1, .ref g2, .int ka, .int ko, .ref g3, .ref g4])), (g1, .inl (E.2.1, 81, .inl (upd u_1 (14 : Int32).toNatClampNeg z_5)))] H := hP
  have hD : va_D A [(h, .inr (6, [.ref g1, .ref g2, .int ka, .int ko, .ref g3, .ref g4])), (g1, .inl (E.2.1, 81, .inl (upd u_1 (14 : Int32).toNatClampNeg z_5)))] := hD
  obtain ⟨f_6, hf_6⟩ : ∃ g : Nat → Int32, g = upd u_1 (14 : Int32).toNatClampNeg z_5 := ⟨_, rfl⟩
  rw [← hf_6] at hP hD
  have kf_6_3 : f_6 3 = nI k := by rw [hf_6]; exact (upd_ne (by decide)).trans kk_3
  refine lv_aload_n hx hb dX5_hearAll_15 rfl (lv_at hl 0 rfl) ?_
  refine lv_aload_n hx hb dX5_hearAll_16 rfl (lv_at hl 0 rfl) ?_
  refine va_get (D := E.1) (ci := 6) (v := .ref g1) (C := RX5) (T := TX5) (N := 6) hx hb hts i_s_hearAll_X5 hown hK hP 0 rfl rfl 0 (by decide) (hts (.fieldLink RX5 11 "HushWatch$State" "row" "[I") (List.mem_of_getElem? (i := 1) rfl)) (fun _ h9 => h9) rfl dX5_hearAll_17 ?_
  refine lv_iconst (v := 4) hx hb dX5_hearAll_20 (by decide) ?_
  refine va_iald hx hb hK hP 1 0 rfl rfl (vin rfl) dX5_hearAll_21 ?_
  refine W.eq (g2 := F0 m 22 ls [.int (f_6 4), .ref h]) rfl ?_
  refine lv_topi (fun z_7 ez_7 => ?_)
  refine lv_i2l (v := z_7.toInt64) hx hb dX5_hearAll_22 rfl ?_
  refine lv_aload_n hx hb dX5_hearAll_23 rfl (lv_at hl 0 rfl) ?_
  refine va_get (D := E.1) (ci := 6) (v := .ref g1) (C := RX5) (T := TX5) (N := 6) hx hb hts i_s_hearAll_X5 hown hK hP 0 rfl rfl 0 (by decide) (hts (.fieldLink RX5 11 "HushWatch$State" "row" "[I") (List.mem_of_getElem? (i := 1) rfl)) (fun _ h9 => h9) rfl dX5_hearAll_24 ?_
  refine lv_iconst (v := 5) hx hb dX5_hearAll_27 (by decide) ?_
  refine va_iald hx hb hK hP 1 0 rfl rfl (vin rfl) dX5_hearAll_28 ?_
  refine W.eq (g2 := F0 m 29 ls [.int (f_6 5), .long z_7.toInt64, .ref h]) rfl ?_
  refine lv_topi (fun z_8 ez_8 => ?_)
  refine lv_i2l (v := z_8.toInt64) hx hb dX5_hearAll_29 rfl ?_
  have hPc := hP.sub (ws' := [(h, .inr (6, [.ref g1, .ref g2, .int ka, .int ko, .ref g3, .ref g4])), (g1, .inl (E.2.1, 81, .inl f_6))]) [0, 1] rfl
  refine pc_i (va_runV (As := [.long z_7.toInt64, .long z_8.toInt64]) (rest := []) ⟨hx, hb, hml, hown, hts⟩ (s_allows l E h g1 g2 g3 g4 k ka ko f_6 z_7.toInt64 z_8.toInt64 kf_6_3 (by omega)) (cwV 2 hts g_s_hearAll_s_allows_59 rfl rfl rfl (by decide +kernel) ⟨Nat.le_of_ble_eq_true rfl, Nat.le_of_ble_eq_true rfl⟩) ⟨pP.blind, va_recv hK hPc (ci := 6) (q0 := 0) rfl rfl, (pP.pre ⟨hK, hN⟩ hPc)⟩ rfl rfl hl.1 rfl (lv_room (Nat.le_of_ble_eq_true rfl)) dX5_hearAll_30 ⟨Nat.le_of_ble_eq_true rfl, Nat.le_of_ble_eq_true rfl⟩) (fun r_9 hr_9 => ?_)
  have K_13 : ∀ (y_12 : Nat), ∀ (H : Heap) (locs : List Loc) (ls : Array Slot), y_12 ≤ 1 → va_P E.1 vwCl [(h, .inr (6, [.ref g1, .ref g2, .int ka, .int ko, .ref g3, .ref g4])), (g1, .inl (E.2.1, 81, .inl f_6))] H → va_D A [(h, .inr (6, [.ref g1, .ref g2, .int ka, .int ko, .ref g3, .ref g4])), (g1, .inl (E.2.1, 81, .inl f_6))] → va_S A s.heap H locs → lv_has ls 2 [(0, .ref h)] → W p l e ({ frames := 2, cells := 0, slots := 0, locals := 52 } : Room) s m #[Value.ref h] below meth c H locs 0 0 Q (F0 m 41 ls [.int (nI y_12)]) := by
    intro y_12 H locs ls hy_12 hP hD hS hl
    refine lv_istore_n (lv' := [(1, .int (nI y_12)), (0, .ref h)]) hx hb dX5_hearAll_41 rfl hl (by decide) rfl (fun ls hl => ?_)
    refine lv_iload_n hx hb dX5_hearAll_42 rfl (lv_at hl 0 rfl) ?_
    refine lv_aload_n hx hb dX5_hearAll_43 rfl (lv_at hl 1 rfl) ?_
    refine va_get (D := E.1) (ci := 6) (v := .ref g1) (C := RX5) (T := TX5) (N := 6) hx hb hts i_s_hearAll_X5 hown hK hP 0 rfl rfl 0 (by decide) (hts (.fieldLink RX5 11 "HushWatch$State" "row" "[I") (List.mem_of_getElem? (i := 1) rfl)) (fun _ h9 => h9) rfl dX5_hearAll_44 ?_
    refine lv_bipush (v := 6) hx hb dX5_hearAll_47 (by decide) ?_
    refine va_iald hx hb hK hP 1 0 rfl rfl (vin rfl) dX5_hearAll_49 ?_
    refine W.eq (g2 := F0 m 50 ls [.int (f_6 6), .int (nI y_12)]) rfl ?_
    refine lv_topi (fun z_14 ez_14 => ?_)
    have K_20 : ∀ (g_19 : Nat → Int32), ∀ (H : Heap) (locs : List Loc) (ls : Array Slot), g_19 3 = nI k → va_P E.1 vwCl [(h, .inr (6, [.ref g1, .ref g2, .int ka, .int ko, .ref g3, .ref g4])), (g1, .inl (E.2.1, 81, .inl g_19))] H → va_D A [(h, .inr (6, [.ref g1, .ref g2, .int ka, .int ko, .ref g3, .ref g4])), (g1, .inl (E.2.1, 81, .inl g_19))] → va_S A s.heap H locs → lv_has ls 2 [(0, .ref h), (1, .int (nI y_12))] → W p l e ({ frames := 2, cells := 0, slots := 0, locals := 52 } : Room) s m #[Value.ref h] below meth c H locs 0 0 Q (F0 m 64 ls []) := by
      intro g_19 H locs ls kg_19_3 hP hD hS hl
      refine lv_aload_n hx hb dX5_hearAll_64 rfl (lv_at hl 0 rfl) ?_
      refine va_get (D := E.1) (ci := 6) (v := .ref g1) (C := RX5) (T := TX5) (N := 6) hx hb hts i_s_hearAll_X5 hown hK hP 0 rfl rfl 0 (by decide) (hts (.fieldLink RX5 11 "HushWatch$State" "row" "[I") (List.mem_of_getElem? (i := 1) rfl)) (fun _ h9 => h9) rfl dX5_hearAll_65 ?_
      refine lv_bipush (v := 6) hx hb dX5_hearAll_68 (by decide) ?_
      refine lv_iload_n hx hb dX5_hearAll_70 rfl (lv_at hl 1 rfl) ?_
      refine va_iast hx hb hK hP hD hS 1 0 rfl rfl (vin rfl) dX5_hearAll_71 (fun H locs hP hD hS => ?_)
      have hP : va_P E.1 vwCl [(h, .inr (6, [.ref g1, .ref g2, .int ka, .int ko, .ref g3, .ref g4])), (g1, .inl (E.2.1, 81, .inl (upd g_19 (6 : Int32).toNatClampNeg (nI y_12))))] H := hP
      have hD : va_D A [(h, .inr (6, [.ref g1, .ref g2, .int ka, .int ko, .ref g3, .ref g4])), (g1, .inl (E.2.1, 81, .inl (upd g_19 (6 : Int32).toNatClampNeg (nI y_12))))] := hD
      obtain ⟨f_21, hf_21⟩ : ∃ g : Nat → Int32, g = upd g_19 (6 : Int32).toNatClampNeg (nI y_12) := ⟨_, rfl⟩
      rw [← hf_21] at hP hD
      have kf_21_3 : f_21 3 = nI k := by rw [hf_21]; exact (upd_ne (by decide)).trans kg_19_3
      rw [hQ]
      have hP9 := hP.sub (ws' := [(h, .inr (6, [.ref g1, .ref g2, .int ka, .int ko, .ref g3, .ref g4])), (g1, .inl (E.2.1, 81, .inl f_21))]) [0, 1] rfl
      have hD9 := hD.sub (ws' := [(h, .inr (6, [.ref g1, .ref g2, .int ka, .int ko, .ref g3, .ref g4])), (g1, .inl (E.2.1, 81, .inl f_21))]) [0, 1] (by decide) rfl
      exact W.vret hx hb hr (fun tt ht hW => ⟨⟨f_21, rfl, kf_21_3, by rw [ht]; exact hP9, hD9⟩, hS.F ht⟩) hS.2.2 dX5_hearAll_72
    refine lv_icmp_eq (tgt := 64) hx hb dX5_hearAll_50 (by decide) (fun c_15 => ?_) (fun c_15 => ?_)
    ·
      exact K_20 f_6 H locs ls kf_6_3 (hP.sub [0, 1] rfl) (hD.sub [0, 1] (by decide) rfl) hS (lv_sub hl [1, 0] rfl)
    ·
      refine lv_aload_n hx hb dX5_hearAll_53 rfl (lv_at hl 1 rfl) ?_
      refine va_get (D := E.1) (ci := 6) (v := .ref g1) (C := RX5) (T := TX5) (N := 6) hx hb hts i_s_hearAll_X5 hown hK hP 0 rfl rfl 0 (by decide) (hts (.fieldLink RX5 11 "HushWatch$State" "row" "[I") (List.mem_of_getElem? (i := 1) rfl)) (fun _ h9 => h9) rfl dX5_hearAll_54 ?_
      refine lv_bipush (v := 15) hx hb dX5_hearAll_57 (by decide) ?_
      refine lv_dup2_11 hx hb dX5_hearAll_59 rfl rfl ?_
      refine va_iald hx hb hK hP 1 0 rfl rfl (vin rfl) dX5_hearAll_60 ?_
      refine W.eq (g2 := F0 m 61 ls [.int (f_6 15), .int 15, .ref g1]) rfl ?_
      refine lv_topi (fun z_22 ez_22 => ?_)
      refine lv_iconst (v := 1) hx hb dX5_hearAll_61 (by decide) ?_
      refine lv_iadd hx hb dX5_hearAll_62 ?_
      refine lv_topi (fun z_23 ez_23 => ?_)
      refine va_iast hx hb hK hP hD hS 1 0 rfl rfl (vin rfl) dX5_hearAll_63 (fun H locs hP hD hS => ?_)
      have hP : va_P E.1 vwCl [(h, .inr (6, [.ref g1, .ref g2, .int ka, .int ko, .ref g3, .ref g4])), (g1, .inl (E.2.1, 81, .inl (upd f_6 (15 : Int32).toNatClampNeg z_23)))] H := hP
      have hD : va_D A [(h, .inr (6, [.ref g1, .ref g2, .int ka, .int ko, .ref g3, .ref g4])), (g1, .inl (E.2.1, 81, .inl (upd f_6 (15 : Int32).toNatClampNeg z_23)))] := hD
      obtain ⟨f_24, hf_24⟩ : ∃ g : Nat → Int32, g = upd f_6 (15 : Int32).toNatClampNeg z_23 := ⟨_, rfl⟩
      rw [← hf_24] at hP hD
      have kf_24_3 : f_24 3 = nI k := by rw [hf_24]; exact (upd_ne (by decide)).trans kf_6_3
      exact K_20 f_24 H locs ls kf_24_3 (hP.sub [0, 1] rfl) (hD.sub [0, 1] (by decide) rfl) hS (lv_sub hl [1, 0] rfl)
  refine lv_if_eq (tgt := 40) hx hb dX5_hearAll_33 (by decide) (fun c_10 => ?_) (fun c_10 => ?_)
  ·
    obtain ⟨j_25, hj_25, ej_25⟩ : ∃ j : Nat, j ≤ 0 ∧ r_9 = nI j := nat_rng (by have t0 : (0 : Int32).toInt = 0 := (by decide); simp only [Int32.lt_iff_toInt_lt, Int32.le_iff_toInt_le, ge_iff_le, gt_iff_lt, ne_eq, ← Int32.toInt_inj, t0] at c_10 ⊢; omega)
    refine lv_iconst (v := 1) hx hb dX5_hearAll_40 (by decide) ?_
    exact K_13 1 H locs ls (by omega) (hP.sub [0, 1] rfl) (hD.sub [0, 1] (by decide) rfl) hS (lv_sub hl [0] rfl)
  ·
    refine lv_iconst (v := 0) hx hb dX5_hearAll_36 (by decide) ?_
    refine lv_goto (tgt := 41) hx hb dX5_hearAll_37 (by decide) ?_
    exact K_13 0 H locs ls (by omega) (hP.sub [0, 1] rfl) (hD.sub [0, 1] (by decide) rfl) hS (lv_sub hl [0] rfl)

def v_s_hearByHand : List Cond := .code yX5_hearByHand cX5_hearByHand 1 (some .int) :: ([.fieldLink RX5 11 "HushWatch$State" "row" "[I", .methodLink RX5 162 yX5_hearAll, .instanceMethod yX5_hearAll, .selects RX5 yX5_hearAll yX5_hearAll, .initialized RX5] ++ (v_s_hearAll ++ (wsX50 ++ ([]))))
theorem gw_s_hearByHand : v_s_hearByHand.all goodWord = true := by decide +kernel
theorem i_s_hearByHand_X5 : ∀ w ∈ wsX50, w ∈ v_s_hearByHand := fun _ h => List.mem_cons_of_mem _ (List.mem_append_right _ (List.mem_append_right _ (List.mem_append_left _ h)))
theorem g_s_hearByHand_s_hearAll_162 : GoodIn v_s_hearByHand (wsV RX5 162 RX5 yX5_hearAll v_s_hearAll) := goodIn_app (goodIn_of _ (by decide +kernel)) (goodIn_sub (fun _ h => List.mem_cons_of_mem _ (List.mem_append_right _ (List.mem_append_left _ h))) gw_s_hearAll)
set_option maxHeartbeats 4000000 in
set_option maxRecDepth 100000 in
theorem s_hearByHand (l : Launch) (E : EE) (sz : Nat) (h g1 g2 g3 g4 k : Nat) (ka ko : Int32) (f : Nat → Int32) (hk : f 3 = nI k) (hk8 : k ≤ 8) : Met l yX5_hearByHand v_s_hearByHand ({ frames := 3, cells := 0, slots := 0, locals := 73 }) (va_Pc [.ref h] (pW E sz [(h, .inr (6, [.ref g1, .ref g2, .int ka, .int ko, .ref g3, .ref g4])), (g1, .inl (E.2.1, 81, .inl f))])) (va_Qi (fun (r : Int32) (f1 : Nat → Int32) => (True) ∧ f1 3 = nI k) (fun (f1 : Nat → Int32) tt => va_P E.1 vwCl [(h, .inr (6, [.ref g1, .ref g2, .int ka, .int ko, .ref g3, .ref g4])), (g1, .inl (E.2.1, 81, .inl f1))] tt.heap ∧ va_D (va_A [(h, .inr (6, [.ref g1, .ref g2, .int ka, .int ko, .ref g3, .ref g4])), (g1, .inl (E.2.1, 81, .inl f))] sz) [(h, .inr (6, [.ref g1, .ref g2, .int ka, .int ko, .ref g3, .ref g4])), (g1, .inl (E.2.1, 81, .inl f1))]) (va_A [(h, .inr (6, [.ref g1, .ref g2, .int ka, .int ko, .ref g3, .ref g4])), (g1, .inl (E.2.1, 81, .inl f))] sz)) 0 0 (va_A [(h, .inr (6, [.ref g1, .ref g2, .int ka, .int ko, .ref g3, .ref g4])), (g1, .inl (E.2.1, 81, .inl f))] sz) := by
  refine Met.ofW (cc := cX5_hearByHand) (maxL := 1) (ret := (some .int)) (by decide) rfl ?_
  intro p e s m args below meth c s₁ B hml hv
  obtain ⟨rfl, hsz, ⟨hK, hN⟩, hP, hD0⟩ := hv
  have hx := B.exec
  have hb := B.bytes
  have hr := B.returns
  have hts := atoms_spec (ws := v_s_hearByHand) B.pre
  have hown : s.vm.findClass RX5 = some m.cls := findClass_of_methodNamed B.named
  have hlocks := B.notSynchronized
  subst hsz
  have hD := hD0.self (sz := s.heap.size)
  generalize hAe : va_A [(h, .inr (6, [.ref g1, .ref g2, .int ka, .int ko, .ref g3, .ref g4])), (g1, .inl (E.2.1, 81, .inl f))] s.heap.size = A at hD ⊢
  have hA : ∀ q : Nat, s.heap.size ≤ q → A q := fun q h => by rw [← hAe]; exact Or.inr h
  have hS : va_S A s.heap s.heap [] := va_S.rf
  have hP : va_P E.1 vwCl [(h, .inr (6, [.ref g1, .ref g2, .int ka, .int ko, .ref g3, .ref g4])), (g1, .inl (E.2.1, 81, .inl f))] s.heap := hP
  have hl := lv_entry ([.ref h]) (n := 1) (Nat.le_of_ble_eq_true rfl)
  rw [lg_entry_eq]
  generalize (lg_sl ([.ref h]) ++ List.replicate (1 - (lg_sl ([.ref h])).length) Slot.unset).toArray = ls at hl ⊢
  have hl : lv_has ls 1 [(0, .ref h)] := hl
  obtain ⟨Q, hQ⟩ : ∃ Q : State → Prop, Q = MQ below (va_Qi (fun (r : Int32) (f1 : Nat → Int32) => (True) ∧ f1 3 = nI k) (fun (f1 : Nat → Int32) tt => va_P E.1 vwCl [(h, .inr (6, [.ref g1, .ref g2, .int ka, .int ko, .ref g3, .ref g4])), (g1, .inl (E.2.1, 81, .inl f1))] tt.heap ∧ va_D A [(h, .inr (6, [.ref g1, .ref g2, .int ka, .int ko, .ref g3, .ref g4])), (g1, .inl (E.2.1, 81, .inl f1))]) A) #[Value.ref h] s 0 0 A := ⟨_, rfl⟩
  rw [← hQ]
  change W p l e ({ frames := 3, cells := 0, slots := 0, locals := 73 } : Room) s m #[Value.ref h] below meth c s.heap [] 0 0 Q (F0 m 0 ls [])
  refine lv_aload_n hx hb dX5_hearByHand_0 rfl (lv_at hl 0 rfl) ?_
  have hPc := hP.sub (ws' := [(h, .inr (6, [.ref g1, .ref g2, .int ka, .int ko, .ref g3, .ref g4])), (g1, .inl (E.2.1, 81, .inl f))]) [0, 1] rfl
  have hDc := hD.sub (ws' := [(h, .inr (6, [.ref g1, .ref g2, .int ka, .int ko, .ref g3, .ref g4])), (g1, .inl (E.2.1, 81, .inl f))]) [0, 1] (by decide) rfl
  have hFc := va_free (wc := [(h, .inr (6, [.ref g1, .ref g2, .int ka, .int ko, .ref g3, .ref g4])), (g1, .inl (E.2.1, 81, .inl f))]) hD hS hA [0, 1] rfl
  refine va_callv (va_runV (As := []) (rest := []) ⟨hx, hb, hml, hown, hts⟩ (s_hearAll l E s.heap.size h g1 g2 g3 g4 k ka ko f hk (by omega)) (cwV 0 hts g_s_hearByHand_s_hearAll_162 rfl rfl rfl (by decide +kernel) ⟨Nat.le_of_ble_eq_true rfl, Nat.le_of_ble_eq_true rfl⟩) ⟨pW.blind, va_recv hK hPc (ci := 6) (q0 := 0) rfl rfl, (pW.pre ⟨hK, hN⟩ hPc hDc)⟩ rfl rfl hl.1 rfl (lv_room (Nat.le_of_ble_eq_true rfl)) dX5_hearByHand_1 ⟨Nat.le_of_ble_eq_true rfl, Nat.le_of_ble_eq_true rfl⟩) hS (fun q _ h => hFc q h) hFc (fun  u_1 tt H1 locs ht hvm hw hB hz1 hk1 hS => ?_)
  obtain ⟨hP1, hD1⟩ := hB
  rw [ht] at hP1
  obtain ⟨hP, hD⟩ := va_join (wr := []) (w1 := [(h, .inr (6, [.ref g1, .ref g2, .int ka, .int ko, .ref g3, .ref g4])), (g1, .inl (E.2.1, 81, .inl u_1))]) hP hD [0, 1] [] rfl rfl (by decide) (by decide) hk1 hFc hP1 hD1
  generalize H1 = H at hP hS ⊢
  have hP : va_P E.1 vwCl [(h, .inr (6, [.ref g1, .ref g2, .int ka, .int ko, .ref g3, .ref g4])), (g1, .inl (E.2.1, 81, .inl u_1))] H := hP
  have hD : va_D A [(h, .inr (6, [.ref g1, .ref g2, .int ka, .int ko, .ref g3, .ref g4])), (g1, .inl (E.2.1, 81, .inl u_1))] := hD
  have hsw_2 := hw
  have kk_3 := hsw_2
  refine lv_iconst (v := 2) hx hb dX5_hearByHand_4 (by decide) ?_
  refine lv_aload_n hx hb dX5_hearByHand_5 rfl (lv_at hl 0 rfl) ?_
  refine va_get (D := E.1) (ci := 6) (v := .ref g1) (C := RX5) (T := TX5) (N := 6) hx hb hts i_s_hearByHand_X5 hown hK hP 0 rfl rfl 0 (by decide) (hts (.fieldLink RX5 11 "HushWatch$State" "row" "[I") (List.mem_of_getElem? (i := 1) rfl)) (fun _ h9 => h9) rfl dX5_hearByHand_6 ?_
  refine lv_iconst (v := 3) hx hb dX5_hearByHand_9 (by decide) ?_
  refine va_iald hx hb hK hP 1 0 rfl rfl (vin rfl) dX5_hearByHand_10 ?_
  refine W.eq (g2 := F0 m 11 ls [.int (u_1 3), .int 2]) rfl ?_
  refine W.eq (g2 := F0 m 11 ls [.int (nI k), .int 2]) (by rw [kk_3]) ?_
  refine lv_imul hx hb dX5_hearByHand_11 ?_
  refine lv_topi (fun z_4 ez_4 => ?_)
  obtain rfl : z_4 = nI (2 * k) := ez_4.trans (nI_mul 2 _)
  rw [hQ]
  have hP9 := hP.sub (ws' := [(h, .inr (6, [.ref g1, .ref g2, .int ka, .int ko, .ref g3, .ref g4])), (g1, .inl (E.2.1, 81, .inl u_1))]) [0, 1] rfl
  have hD9 := hD.sub (ws' := [(h, .inr (6, [.ref g1, .ref g2, .int ka, .int ko, .ref g3, .ref g4])), (g1, .inl (E.2.1, 81, .inl u_1))]) [0, 1] (by decide) rfl
  exact W.iret (v := nI (2 * k)) hx hb hr (fun tt ht hW => ⟨⟨_, u_1, rfl, ⟨trivial, kk_3⟩, by rw [ht]; exact hP9, hD9⟩, hS.F ht⟩) hS.2.2 dX5_hearByHand_12

def v_s_endRound : List Cond := .code yX5_endRound cX5_endRound 2 none :: ([.fieldLink RX5 11 "HushWatch$State" "row" "[I", .methodLink RX5 188 yX5_total, .instanceMethod yX5_total, .selects RX5 yX5_total yX5_total, .initialized RX5, .methodLink RX5 45 yX5_sites, .instanceMethod yX5_sites, .selects RX5 yX5_sites yX5_sites, .methodLink RX5 52 yX5_put, .instanceMethod yX5_put, .selects RX5 yX5_put yX5_put] ++ (wsX50 ++ (v_s_total ++ (v_s_sites ++ (v_s_put ++ ([]))))))
theorem gw_s_endRound : v_s_endRound.all goodWord = true := by decide +kernel
theorem i_s_endRound_X5 : ∀ w ∈ wsX50, w ∈ v_s_endRound := fun _ h => List.mem_cons_of_mem _ (List.mem_append_right _ (List.mem_append_left _ h))
theorem g_s_endRound_s_total_188 : GoodIn v_s_endRound (wsV RX5 188 RX5 yX5_total v_s_total) := goodIn_app (goodIn_of _ (by decide +kernel)) (goodIn_sub (fun _ h => List.mem_cons_of_mem _ (List.mem_append_right _ (List.mem_append_right _ (List.mem_append_left _ h)))) gw_s_total)
theorem g_s_endRound_s_sites_45 : GoodIn v_s_endRound (wsV RX5 45 RX5 yX5_sites v_s_sites) := goodIn_app (goodIn_of _ (by decide +kernel)) (goodIn_sub (fun _ h => List.mem_cons_of_mem _ (List.mem_append_right _ (List.mem_append_right _ (List.mem_append_right _ (List.mem_append_left _ h))))) gw_s_sites)
theorem g_s_endRound_s_put_52 : GoodIn v_s_endRound (wsV RX5 52 RX5 yX5_put v_s_put) := goodIn_app (goodIn_of _ (by decide +kernel)) (goodIn_sub (fun _ h => List.mem_cons_of_mem _ (List.mem_append_right _ (List.mem_append_right _ (List.mem_append_right _ (List.mem_append_right _ (List.mem_append_left _ h)))))) gw_s_put)
set_option maxHeartbeats 4000000 in
set_option maxRecDepth 100000 in
theorem lp_s_endRound_34 {p : Program} (l : Launch) {e : Env} {s : State} {m : MethodId} {below : List Frame} {meth : Method} {c : Code} {Q : State → Prop} (E : EE) {h g1 g2 g3 g4 k : Nat} {ka ko : Int32} {f : Nat → Int32} (hk : f 3 = nI k) (hk8 : k ≤ 8) (hx : p.tables.exec = Jvm.exec) (hb : c.code = cX5_endRound) (hml : c.maxLocals = 2) (hown : s.vm.findClass RX5 = some m.cls) (hts : ∀ w ∈ v_s_endRound, w.before #[Value.ref h] s = true) (hK : va_K E.1 vwCl (TY E) s) (hN : NX s) {A : Nat → Prop} (hA : ∀ q : Nat, s.heap.size ≤ q → A q) (KX56 : ∀ (i : Nat), ∀ (f1 : Nat → Int32), ∀ (H : Heap) (locs : List Loc) (ls : Array Slot), i ≤ 8 → f1 3 = nI k → va_P E.1 vwCl [(h, .inr (6, [.ref g1, .ref g2, .int ka, .int ko, .ref g3, .ref g4])), (g1, .inl (E.2.1, 81, .inl f1))] H → va_D A [(h, .inr (6, [.ref g1, .ref g2, .int ka, .int ko, .ref g3, .ref g4])), (g1, .inl (E.2.1, 81, .inl f1))] → va_S A s.heap H locs → lv_has ls 2 [(0, .ref h), (1, .int (nI i))] → W p l e ({ frames := 2, cells := 0, slots := 0, locals := 45 } : Room) s m #[Value.ref h] below meth c H locs 0 0 Q (F0 m 56 ls [])) : ∀ fuel9 : Nat, ∀ (i : Nat), ∀ (f1 : Nat → Int32), ∀ (H : Heap) (locs : List Loc) (ls : Array Slot), i ≤ 8 → f1 3 = nI k → (9 - i) < fuel9 → va_P E.1 vwCl [(h, .inr (6, [.ref g1, .ref g2, .int ka, .int ko, .ref g3, .ref g4])), (g1, .inl (E.2.1, 81, .inl f1))] H → va_D A [(h, .inr (6, [.ref g1, .ref g2, .int ka, .int ko, .ref g3, .ref g4])), (g1, .inl (E.2.1, 81, .inl f1))] → va_S A s.heap H locs → lv_has ls 2 [(0, .ref h), (1, .int (nI i))] → W p l e ({ frames := 2, cells := 0, slots := 0, locals := 45 } : Room) s m #[Value.ref h] below meth c H locs 0 0 Q (F0 m 34 ls []) := by
  intro fuel9
  induction fuel9 with
  | zero =>
    intro i f1 H locs ls hi kf1_3 hms hP hD hS hl
    omega
  | succ fuel9 ih =>
    intro i f1 H locs ls hi kf1_3 hms hP hD hS hl
    refine lv_iload_n hx hb dX5_endRound_34 rfl (lv_at hl 1 rfl) ?_
    refine lv_aload_n hx hb dX5_endRound_35 rfl (lv_at hl 0 rfl) ?_
    have hPc := hP.sub (ws' := [(h, .inr (6, [.ref g1, .ref g2, .int ka, .int ko, .ref g3, .ref g4])), (g1, .inl (E.2.1, 81, .inl f1))]) [0, 1] rfl
    refine pc_i (va_runV (As := []) (rest := [.int (nI i)]) ⟨hx, hb, hml, hown, hts⟩ (s_sites l E h g1 g2 g3 g4 k ka ko f1 kf1_3 (by omega)) (cwV 0 hts g_s_endRound_s_sites_45 rfl rfl rfl (by decide +kernel) ⟨Nat.le_of_ble_eq_true rfl, Nat.le_of_ble_eq_true rfl⟩) ⟨pP.blind, va_recv hK hPc (ci := 6) (q0 := 0) rfl rfl, (pP.pre ⟨hK, hN⟩ hPc)⟩ rfl rfl hl.1 rfl (lv_room (Nat.le_of_ble_eq_true rfl)) dX5_endRound_36 ⟨Nat.le_of_ble_eq_true rfl, Nat.le_of_ble_eq_true rfl⟩) (fun r_7 hr_7 => ?_)
    obtain rfl : r_7 = nI k := hr_7
    refine lv_icmp_ge (tgt := 56) hx hb dX5_endRound_39 (by decide) (fun c_8 => ?_) (fun c_8 => ?_)
    ·
      have d_12 : k ≤ i := nc_ge (a := i) (b := k) (by omega) (by omega) c_8
      exact KX56 i f1 H locs ls (by omega) kf1_3 (hP.sub [0, 1] rfl) (hD.sub [0, 1] (by decide) rfl) hS (lv_sub hl [0, 1] rfl)
    ·
      have d_13 : ¬ (k ≤ i) := nc_ge_n (a := i) (b := k) (by omega) (by omega) c_8
      refine lv_aload_n hx hb dX5_endRound_42 rfl (lv_at hl 0 rfl) ?_
      refine lv_iload_n hx hb dX5_endRound_43 rfl (lv_at hl 1 rfl) ?_
      refine lv_bipush (v := 7) hx hb dX5_endRound_44 (by decide) ?_
      refine lv_iconst (v := 0) hx hb dX5_endRound_46 (by decide) ?_
      have hPc := hP.sub (ws' := [(h, .inr (6, [.ref g1, .ref g2, .int ka, .int ko, .ref g3, .ref g4])), (g1, .inl (E.2.1, 81, .inl f1))]) [0, 1] rfl
      have hDc := hD.sub (ws' := [(h, .inr (6, [.ref g1, .ref g2, .int ka, .int ko, .ref g3, .ref g4])), (g1, .inl (E.2.1, 81, .inl f1))]) [0, 1] (by decide) rfl
      have hFc := va_free (wc := [(h, .inr (6, [.ref g1, .ref g2, .int ka, .int ko, .ref g3, .ref g4])), (g1, .inl (E.2.1, 81, .inl f1))]) hD hS hA [0, 1] rfl
      refine va_callv (va_runV (As := [.int (nI i), .int 7, .int 0]) (rest := []) ⟨hx, hb, hml, hown, hts⟩ (s_put l E H.size h g1 g2 g3 g4 k ka ko f1 (nI i) 7 0 kf1_3 (by omega)) (cwV 3 hts g_s_endRound_s_put_52 rfl rfl rfl (by decide +kernel) ⟨Nat.le_of_ble_eq_true rfl, Nat.le_of_ble_eq_true rfl⟩) ⟨pW.blind, va_recv hK hPc (ci := 6) (q0 := 0) rfl rfl, (pW.pre ⟨hK, hN⟩ hPc hDc)⟩ rfl rfl hl.1 rfl (lv_room (Nat.le_of_ble_eq_true rfl)) dX5_endRound_47 ⟨Nat.le_of_ble_eq_true rfl, Nat.le_of_ble_eq_true rfl⟩) hS (fun q _ h => hFc q h) hFc (fun  u_14 tt H1 locs ht hvm hw hB hz1 hk1 hS => ?_)
      obtain ⟨hP1, hD1⟩ := hB
      rw [ht] at hP1
      obtain ⟨hP, hD⟩ := va_join (wr := []) (w1 := [(h, .inr (6, [.ref g1, .ref g2, .int ka, .int ko, .ref g3, .ref g4])), (g1, .inl (E.2.1, 81, .inl u_14))]) hP hD [0, 1] [] rfl rfl (by decide) (by decide) hk1 hFc hP1 hD1
      generalize H1 = H at hP hS ⊢
      have hP : va_P E.1 vwCl [(h, .inr (6, [.ref g1, .ref g2, .int ka, .int ko, .ref g3, .ref g4])), (g1, .inl (E.2.1, 81, .inl u_14))] H := hP
      have hD : va_D A [(h, .inr (6, [.ref g1, .ref g2, .int ka, .int ko, .ref g3, .ref g4])), (g1, .inl (E.2.1, 81, .inl u_14))] := hD
      have hsw_15 := hw
      have kk_16 := hsw_15
      refine lv_iinc (v := nI (i + 1)) (lv' := [(1, .int (nI (i + 1))), (0, .ref h)]) hx hb dX5_endRound_50 hl (k := 1) rfl (show nI (i) + 1 = nI (i + 1) from nI_add _ 1) (by decide) rfl (fun ls hl => ?_)
      refine lv_goto (tgt := 34) hx hb dX5_endRound_53 (by decide) ?_
      exact ih (i + 1) u_14 H locs ls (by omega) kk_16 (by omega) (hP.sub [0, 1] rfl) (hD.sub [0, 1] (by decide) rfl) hS (lv_sub hl [1, 0] rfl)

set_option maxHeartbeats 4000000 in
set_option maxRecDepth 100000 in
theorem s_endRound (l : Launch) (E : EE) (sz : Nat) (h g1 g2 g3 g4 k : Nat) (ka ko : Int32) (f : Nat → Int32) (hk : f 3 = nI k) (hk8 : k ≤ 8) : Met l yX5_endRound v_s_endRound ({ frames := 2, cells := 0, slots := 0, locals := 45 }) (va_Pc [.ref h] (pW E sz [(h, .inr (6, [.ref g1, .ref g2, .int ka, .int ko, .ref g3, .ref g4])), (g1, .inl (E.2.1, 81, .inl f))])) (va_Qv (fun (f1 : Nat → Int32) => f1 3 = nI k) (fun (f1 : Nat → Int32) tt => va_P E.1 vwCl [(h, .inr (6, [.ref g1, .ref g2, .int ka, .int ko, .ref g3, .ref g4])), (g1, .inl (E.2.1, 81, .inl f1))] tt.heap ∧ va_D (va_A [(h, .inr (6, [.ref g1, .ref g2, .int ka, .int ko, .ref g3, .ref g4])), (g1, .inl (E.2.1, 81, .inl f))] sz) [(h, .inr (6, [.ref g1, .ref g2, .int ka, .int ko, .ref g3, .ref g4])), (g1, .inl (E.2.1, 81, .inl f1))]) (va_A [(h, .inr (6, [.ref g1, .ref g2, .int ka, .int ko, .ref g3, .ref g4])), (g1, .inl (E.2.1, 81, .inl f))] sz)) 0 0 (va_A [(h, .inr (6, [.ref g1, .ref g2, .int ka, .int ko, .ref g3, .ref g4])), (g1, .inl (E.2.1, 81, .inl f))] sz) := by
  refine Met.ofW (cc := cX5_endRound) (maxL := 2) (ret := none) (by decide) rfl ?_
  intro p e s m args below meth c s₁ B hml hv
  obtain ⟨rfl, hsz, ⟨hK, hN⟩, hP, hD0⟩ := hv
  have hx := B.exec
  have hb := B.bytes
  have hr := B.returns
  have hts := atoms_spec (ws := v_s_endRound) B.pre
  have hown : s.vm.findClass RX5 = some m.cls := findClass_of_methodNamed B.named
  have hlocks := B.notSynchronized
  subst hsz
  have hD := hD0.self (sz := s.heap.size)
  generalize hAe : va_A [(h, .inr (6, [.ref g1, .ref g2, .int ka, .int ko, .ref g3, .ref g4])), (g1, .inl (E.2.1, 81, .inl f))] s.heap.size = A at hD ⊢
  have hA : ∀ q : Nat, s.heap.size ≤ q → A q := fun q h => by rw [← hAe]; exact Or.inr h
  have hS : va_S A s.heap s.heap [] := va_S.rf
  have hP : va_P E.1 vwCl [(h, .inr (6, [.ref g1, .ref g2, .int ka, .int ko, .ref g3, .ref g4])), (g1, .inl (E.2.1, 81, .inl f))] s.heap := hP
  have hl := lv_entry ([.ref h]) (n := 2) (Nat.le_of_ble_eq_true rfl)
  rw [lg_entry_eq]
  generalize (lg_sl ([.ref h]) ++ List.replicate (2 - (lg_sl ([.ref h])).length) Slot.unset).toArray = ls at hl ⊢
  have hl : lv_has ls 2 [(0, .ref h)] := hl
  obtain ⟨Q, hQ⟩ : ∃ Q : State → Prop, Q = MQ below (va_Qv (fun (f1 : Nat → Int32) => f1 3 = nI k) (fun (f1 : Nat → Int32) tt => va_P E.1 vwCl [(h, .inr (6, [.ref g1, .ref g2, .int ka, .int ko, .ref g3, .ref g4])), (g1, .inl (E.2.1, 81, .inl f1))] tt.heap ∧ va_D A [(h, .inr (6, [.ref g1, .ref g2, .int ka, .int ko, .ref g3, .ref g4])), (g1, .inl (E.2.1, 81, .inl f1))]) A) #[Value.ref h] s 0 0 A := ⟨_, rfl⟩
  rw [← hQ]
  change W p l e ({ frames := 2, cells := 0, slots := 0, locals := 45 } : Room) s m #[Value.ref h] below meth c s.heap [] 0 0 Q (F0 m 0 ls [])
  refine lv_aload_n hx hb dX5_endRound_0 rfl (lv_at hl 0 rfl) ?_
  refine va_get (D := E.1) (ci := 6) (v := .ref g1) (C := RX5) (T := TX5) (N := 6) hx hb hts i_s_endRound_X5 hown hK hP 0 rfl rfl 0 (by decide) (hts (.fieldLink RX5 11 "HushWatch$State" "row" "[I") (List.mem_of_getElem? (i := 1) rfl)) (fun _ h9 => h9) rfl dX5_endRound_1 ?_
  refine lv_bipush (v := 8) hx hb dX5_endRound_4 (by decide) ?_
  refine lv_aload_n hx hb dX5_endRound_6 rfl (lv_at hl 0 rfl) ?_
  refine lv_bipush (v := 6) hx hb dX5_endRound_7 (by decide) ?_
  have hPc := hP.sub (ws' := [(h, .inr (6, [.ref g1, .ref g2, .int ka, .int ko, .ref g3, .ref g4])), (g1, .inl (E.2.1, 81, .inl f))]) [0, 1] rfl
  refine pc_i (va_runV (As := [.int 6]) (rest := [.int 8, .ref g1]) ⟨hx, hb, hml, hown, hts⟩ (s_total l E h g1 g2 g3 g4 k ka ko f 6 hk (by omega)) (cwV 1 hts g_s_endRound_s_total_188 rfl rfl rfl (by decide +kernel) ⟨Nat.le_of_ble_eq_true rfl, Nat.le_of_ble_eq_true rfl⟩) ⟨pP.blind, va_recv hK hPc (ci := 6) (q0 := 0) rfl rfl, (pP.pre ⟨hK, hN⟩ hPc)⟩ rfl rfl hl.1 rfl (lv_room (Nat.le_of_ble_eq_true rfl)) dX5_endRound_9 ⟨Nat.le_of_ble_eq_true rfl, Nat.le_of_ble_eq_true rfl⟩) (fun r_1 hr_1 => ?_)
  refine va_iast hx hb hK hP hD hS 1 0 rfl rfl (vin rfl) dX5_endRound_12 (fun H locs hP hD hS => ?_)
  have hP : va_P E.1 vwCl [(h, .inr (6, [.ref g1, .ref g2, .int ka, .int ko, .ref g3, .ref g4])), (g1, .inl (E.2.1, 81, .inl (upd f (8 : Int32).toNatClampNeg r_1)))] H := hP
  have hD : va_D A [(h, .inr (6, [.ref g1, .ref g2, .int ka, .int ko, .ref g3, .ref g4])), (g1, .inl (E.2.1, 81, .inl (upd f (8 : Int32).toNatClampNeg r_1)))] := hD
  obtain ⟨f_2, hf_2⟩ : ∃ g : Nat → Int32, g = upd f (8 : Int32).toNatClampNeg r_1 := ⟨_, rfl⟩
  rw [← hf_2] at hP hD
  have kf_2_3 : f_2 3 = nI k := by rw [hf_2]; exact (upd_ne (by decide)).trans hk
  refine lv_aload_n hx hb dX5_endRound_13 rfl (lv_at hl 0 rfl) ?_
  refine va_get (D := E.1) (ci := 6) (v := .ref g1) (C := RX5) (T := TX5) (N := 6) hx hb hts i_s_endRound_X5 hown hK hP 0 rfl rfl 0 (by decide) (hts (.fieldLink RX5 11 "HushWatch$State" "row" "[I") (List.mem_of_getElem? (i := 1) rfl)) (fun _ h9 => h9) rfl dX5_endRound_14 ?_
  refine lv_bipush (v := 9) hx hb dX5_endRound_17 (by decide) ?_
  refine lv_iconst (v := 0) hx hb dX5_endRound_19 (by decide) ?_
  refine va_iast hx hb hK hP hD hS 1 0 rfl rfl (vin rfl) dX5_endRound_20 (fun H locs hP hD hS => ?_)
  have hP : va_P E.1 vwCl [(h, .inr (6, [.ref g1, .ref g2, .int ka, .int ko, .ref g3, .ref g4])), (g1, .inl (E.2.1, 81, .inl (upd f_2 (9 : Int32).toNatClampNeg 0)))] H := hP
  have hD : va_D A [(h, .inr (6, [.ref g1, .ref g2, .int ka, .int ko, .ref g3, .ref g4])), (g1, .inl (E.2.1, 81, .inl (upd f_2 (9 : Int32).toNatClampNeg 0)))] := hD
  obtain ⟨f_3, hf_3⟩ : ∃ g : Nat → Int32, g = upd f_2 (9 : Int32).toNatClampNeg 0 := ⟨_, rfl⟩
  rw [← hf_3] at hP hD
  have kf_3_3 : f_3 3 = nI k := by rw [hf_3]; exact (upd_ne (by decide)).trans kf_2_3
  refine lv_aload_n hx hb dX5_endRound_21 rfl (lv_at hl 0 rfl) ?_
  refine va_get (D := E.1) (ci := 6) (v := .ref g1) (C := RX5) (T := TX5) (N := 6) hx hb hts i_s_endRound_X5 hown hK hP 0 rfl rfl 0 (by decide) (hts (.fieldLink RX5 11 "HushWatch$State" "row" "[I") (List.mem_of_getElem? (i := 1) rfl)) (fun _ h9 => h9) rfl dX5_endRound_22 ?_
  refine lv_bipush (v := 10) hx hb dX5_endRound_25 (by decide) ?_
  refine lv_dup2_11 hx hb dX5_endRound_27 rfl rfl ?_
  refine va_iald hx hb hK hP 1 0 rfl rfl (vin rfl) dX5_endRound_28 ?_
  refine W.eq (g2 := F0 m 29 ls [.int (f_3 10), .int 10, .ref g1]) rfl ?_
  refine lv_topi (fun z_4 ez_4 => ?_)
  refine lv_iconst (v := 1) hx hb dX5_endRound_29 (by decide) ?_
  refine lv_iadd hx hb dX5_endRound_30 ?_
  refine lv_topi (fun z_5 ez_5 => ?_)
  refine va_iast hx hb hK hP hD hS 1 0 rfl rfl (vin rfl) dX5_endRound_31 (fun H locs hP hD hS => ?_)
  have hP : va_P E.1 vwCl [(h, .inr (6, [.ref g1, .ref g2, .int ka, .int ko, .ref g3, .ref g4])), (g1, .inl (E.2.1, 81, .inl (upd f_3 (10 : Int32).toNatClampNeg z_5)))] H := hP
  have hD : va_D A [(h, .inr (6, [.ref g1, .ref g2, .int ka, .int ko, .ref g3, .ref g4])), (g1, .inl (E.2.1, 81, .inl (upd f_3 (10 : Int32).toNatClampNeg z_5)))] := hD
  obtain ⟨f_6, hf_6⟩ : ∃ g : Nat → Int32, g = upd f_3 (10 : Int32).toNatClampNeg z_5 := ⟨_, rfl⟩
  rw [← hf_6] at hP hD
  have kf_6_3 : f_6 3 = nI k := by rw [hf_6]; exact (upd_ne (by decide)).trans kf_3_3
  refine lv_iconst (v := 0) hx hb dX5_endRound_32 (by decide) ?_
  refine lv_istore_n (lv' := [(1, .int 0), (0, .ref h)]) hx hb dX5_endRound_33 rfl hl (by decide) rfl (fun ls hl => ?_)
  refine lp_s_endRound_34 (h := h) (g1 := g1) (g2 := g2) (g3 := g3) (g4 := g4) (k := k) (ka := ka) (ko := ko) (f := f) l E hk hk8 hx hb hml hown hts hK hN hA ?_ (10) 0 f_6 H locs ls (by omega) kf_6_3 (by omega) (hP.sub [0, 1] rfl) (hD.sub [0, 1] (by decide) rfl) hS (lv_sub hl [1, 0] rfl)
  ·
    intro i f1 H locs ls hi kf1_3 hP hD hS hl
    rw [hQ]
    have hP9 := hP.sub (ws' := [(h, .inr (6, [.ref g1, .ref g2, .int ka, .int ko, .ref g3, .ref g4])), (g1, .inl (E.2.1, 81, .inl f1))]) [0, 1] rfl
    have hD9 := hD.sub (ws' := [(h, .inr (6, [.ref g1, .ref g2, .int ka, .int ko, .ref g3, .ref g4])), (g1, .inl (E.2.1, 81, .inl f1))]) [0, 1] (by decide) rfl
    exact W.vret hx hb hr (fun tt ht hW => ⟨⟨f1, rfl, kf1_3, by rw [ht]; exact hP9, hD9⟩, hS.F ht⟩) hS.2.2 dX5_endRound_56

def v_s_startCounts : List Cond := .code yX5_startCounts cX5_startCounts 3 none :: ([.fieldLink RX5 11 "HushWatch$State" "row" "[I", .methodLink RX5 45 yX5_sites, .instanceMethod yX5_sites, .selects RX5 yX5_sites yX5_sites, .initialized RX5, .methodLink RX5 52 yX5_put, .instanceMethod yX5_put, .selects RX5 yX5_put yX5_put] ++ (wsX50 ++ (v_s_sites ++ (v_s_put ++ ([])))))
theorem gw_s_startCounts : v_s_startCounts.all goodWord = true := by decide +kernel
theorem i_s_startCounts_X5 : ∀ w ∈ wsX50, w ∈ v_s_startCounts := fun _ h => List.mem_cons_of_mem _ (List.mem_append_right _ (List.mem_append_left _ h))
theorem g_s_startCounts_s_sites_45 : GoodIn v_s_startCounts (wsV RX5 45 RX5 yX5_sites v_s_sites) := goodIn_app (goodIn_of _ (by decide +kernel)) (goodIn_sub (fun _ h => List.mem_cons_of_mem _ (List.mem_append_right _ (List.mem_append_right _ (List.mem_append_left _ h)))) gw_s_sites)
theorem g_s_startCounts_s_put_52 : GoodIn v_s_startCounts (wsV RX5 52 RX5 yX5_put v_s_put) := goodIn_app (goodIn_of _ (by decide +kernel)) (goodIn_sub (fun _ h => List.mem_cons_of_mem _ (List.mem_append_right _ (List.mem_append_right _ (List.mem_append_right _ (List.mem_append_left _ h))))) gw_s_put)
set_option maxHeartbeats 4000000 in
set_option maxRecDepth 100000 in
theorem lp_s_startCounts_33 {p : Program} (l : Launch) {e : Env} {s : State} {m : MethodId} {below : List Frame} {meth : Method} {c : Code} {Q : State → Prop} (E : EE) {h g1 g2 g3 g4 k : Nat} {ka ko : Int32} {f : Nat → Int32} {p0 : Int32} (hk : f 3 = nI k) (hk8 : k ≤ 8) (hx : p.tables.exec = Jvm.exec) (hb : c.code = cX5_startCounts) (hml : c.maxLocals = 3) (hown : s.vm.findClass RX5 = some m.cls) (hts : ∀ w ∈ v_s_startCounts, w.before #[Value.ref h, Value.int p0] s = true) (hK : va_K E.1 vwCl (TY E) s) (hN : NX s) {A : Nat → Prop} (hA : ∀ q : Nat, s.heap.size ≤ q → A q) (KX63 : ∀ (i : Nat), ∀ (f1 : Nat → Int32), ∀ (H : Heap) (locs : List Loc) (ls : Array Slot), i ≤ 8 → f1 3 = nI k → va_P E.1 vwCl [(h, .inr (6, [.ref g1, .ref g2, .int ka, .int ko, .ref g3, .ref g4])), (g1, .inl (E.2.1, 81, .inl f1))] H → va_D A [(h, .inr (6, [.ref g1, .ref g2, .int ka, .int ko, .ref g3, .ref g4])), (g1, .inl (E.2.1, 81, .inl f1))] → va_S A s.heap H locs → lv_has ls 3 [(0, .ref h), (1, .int p0), (2, .int (nI i))] → W p l e ({ frames := 1, cells := 0, slots := 0, locals := 23 } : Room) s m #[Value.ref h, Value.int p0] below meth c H locs 0 0 Q (F0 m 63 ls [])) : ∀ fuel9 : Nat, ∀ (i : Nat), ∀ (f1 : Nat → Int32), ∀ (H : Heap) (locs : List Loc) (ls : Array Slot), i ≤ 8 → f1 3 = nI k → (9 - i) < fuel9 → va_P E.1 vwCl [(h, .inr (6, [.ref g1, .ref g2, .int ka, .int ko, .ref g3, .ref g4])), (g1, .inl (E.2.1, 81, .inl f1))] H → va_D A [(h, .inr (6, [.ref g1, .ref g2, .int ka, .int ko, .ref g3, .ref g4])), (g1, .inl (E.2.1, 81, .inl f1))] → va_S A s.heap H locs → lv_has ls 3 [(0, .ref h), (1, .int p0), (2, .int (nI i))] → W p l e ({ frames := 1, cells := 0, slots := 0, locals := 23 } : Room) s m #[Value.ref h, Value.int p0] below meth c H locs 0 0 Q (F0 m 33 ls []) := by
  intro fuel9
  induction fuel9 with
  | zero =>
    intro i f1 H locs ls hi kf1_3 hms hP hD hS hl
    omega
  | succ fuel9 ih =>
    intro i f1 H locs ls hi kf1_3 hms hP hD hS hl
    refine lv_iload_n hx hb dX5_startCounts_33 rfl (lv_at hl 2 rfl) ?_
    refine lv_aload_n hx hb dX5_startCounts_34 rfl (lv_at hl 0 rfl) ?_
    have hPc := hP.sub (ws' := [(h, .inr (6, [.ref g1, .ref g2, .int ka, .int ko, .ref g3, .ref g4])), (g1, .inl (E.2.1, 81, .inl f1))]) [0, 1] rfl
    refine pc_i (va_runV (As := []) (rest := [.int (nI i)]) ⟨hx, hb, hml, hown, hts⟩ (s_sites l E h g1 g2 g3 g4 k ka ko f1 kf1_3 (by omega)) (cwV 0 hts g_s_startCounts_s_sites_45 rfl rfl rfl (by decide +kernel) ⟨Nat.le_of_ble_eq_true rfl, Nat.le_of_ble_eq_true rfl⟩) ⟨pP.blind, va_recv hK hPc (ci := 6) (q0 := 0) rfl rfl, (pP.pre ⟨hK, hN⟩ hPc)⟩ rfl rfl hl.1 rfl (lv_room (Nat.le_of_ble_eq_true rfl)) dX5_startCounts_35 ⟨Nat.le_of_ble_eq_true rfl, Nat.le_of_ble_eq_true rfl⟩) (fun r_5 hr_5 => ?_)
    obtain rfl : r_5 = nI k := hr_5
    refine lv_icmp_ge (tgt := 63) hx hb dX5_startCounts_38 (by decide) (fun c_6 => ?_) (fun c_6 => ?_)
    ·
      have d_13 : k ≤ i := nc_ge (a := i) (b := k) (by omega) (by omega) c_6
      exact KX63 i f1 H locs ls (by omega) kf1_3 (hP.sub [0, 1] rfl) (hD.sub [0, 1] (by decide) rfl) hS (lv_sub hl [0, 1, 2] rfl)
    ·
      have d_14 : ¬ (k ≤ i) := nc_ge_n (a := i) (b := k) (by omega) (by omega) c_6
      refine lv_aload_n hx hb dX5_startCounts_41 rfl (lv_at hl 0 rfl) ?_
      refine lv_iload_n hx hb dX5_startCounts_42 rfl (lv_at hl 2 rfl) ?_
      refine lv_bipush (v := 6) hx hb dX5_startCounts_43 (by decide) ?_
      refine lv_iconst (v := 0) hx hb dX5_startCounts_45 (by decide) ?_
      have hPc := hP.sub (ws' := [(h, .inr (6, [.ref g1, .ref g2, .int ka, .int ko, .ref g3, .ref g4])), (g1, .inl (E.2.1, 81, .inl f1))]) [0, 1] rfl
      have hDc := hD.sub (ws' := [(h, .inr (6, [.ref g1, .ref g2, .int ka, .int ko, .ref g3, .ref g4])), (g1, .inl (E.2.1, 81, .inl f1))]) [0, 1] (by decide) rfl
      have hFc := va_free (wc := [(h, .inr (6, [.ref g1, .ref g2, .int ka, .int ko, .ref g3, .ref g4])), (g1, .inl (E.2.1, 81, .inl f1))]) hD hS hA [0, 1] rfl
      refine va_callv (va_runV (As := [.int (nI i), .int 6, .int 0]) (rest := []) ⟨hx, hb, hml, hown, hts⟩ (s_put l E H.size h g1 g2 g3 g4 k ka ko f1 (nI i) 6 0 kf1_3 (by omega)) (cwV 3 hts g_s_startCounts_s_put_52 rfl rfl rfl (by decide +kernel) ⟨Nat.le_of_ble_eq_true rfl, Nat.le_of_ble_eq_true rfl⟩) ⟨pW.blind, va_recv hK hPc (ci := 6) (q0 := 0) rfl rfl, (pW.pre ⟨hK, hN⟩ hPc hDc)⟩ rfl rfl hl.1 rfl (lv_room (Nat.le_of_ble_eq_true rfl)) dX5_startCounts_46 ⟨Nat.le_of_ble_eq_true rfl, Nat.le_of_ble_eq_true rfl⟩) hS (fun q _ h => hFc q h) hFc (fun  u_15 tt H1 locs ht hvm hw hB hz1 hk1 hS => ?_)
      obtain ⟨hP1, hD1⟩ := hB
      rw [ht] at hP1
      obtain ⟨hP, hD⟩ := va_join (wr := []) (w1 := [(h, .inr (6, [.ref g1, .ref g2, .int ka, .int ko, .ref g3, .ref g4])), (g1, .inl (E.2.1, 81, .inl u_15))]) hP hD [0, 1] [] rfl rfl (by decide) (by decide) hk1 hFc hP1 hD1
      generalize H1 = H at hP hS ⊢
      have hP : va_P E.1 vwCl [(h, .inr (6, [.ref g1, .ref g2, .int ka, .int ko, .ref g3, .ref g4])), (g1, .inl (E.2.1, 81, .inl u_15))] H := hP
      have hD : va_D A [(h, .inr (6, [.ref g1, .ref g2, .int ka, .int ko, .ref g3, .ref g4])), (g1, .inl (E.2.1, 81, .inl u_15))] := hD
      have hsw_16 := hw
      have kk_17 := hsw_16
      refine lv_aload_n hx hb dX5_startCounts_49 rfl (lv_at hl 0 rfl) ?_
      refine lv_iload_n hx hb dX5_startCounts_50 rfl (lv_at hl 2 rfl) ?_
      refine lv_bipush (v := 7) hx hb dX5_startCounts_51 (by decide) ?_
      refine lv_iconst (v := 0) hx hb dX5_startCounts_53 (by decide) ?_
      have hPc := hP.sub (ws' := [(h, .inr (6, [.ref g1, .ref g2, .int ka, .int ko, .ref g3, .ref g4])), (g1, .inl (E.2.1, 81, .inl u_15))]) [0, 1] rfl
      have hDc := hD.sub (ws' := [(h, .inr (6, [.ref g1, .ref g2, .int ka, .int ko, .ref g3, .ref g4])), (g1, .inl (E.2.1, 81, .inl u_15))]) [0, 1] (by decide) rfl
      have hFc := va_free (wc := [(h, .inr (6, [.ref g1, .ref g2, .int ka, .int ko, .ref g3, .ref g4])), (g1, .inl (E.2.1, 81, .inl u_15))]) hD hS hA [0, 1] rfl
      refine va_callv (va_runV (As := [.int (nI i), .int 7, .int 0]) (rest := []) ⟨hx, hb, hml, hown, hts⟩ (s_put l E H.size h g1 g2 g3 g4 k ka ko u_15 (nI i) 7 0 kk_17 (by omega)) (cwV 3 hts g_s_startCounts_s_put_52 rfl rfl rfl (by decide +kernel) ⟨Nat.le_of_ble_eq_true rfl, Nat.le_of_ble_eq_true rfl⟩) ⟨pW.blind, va_recv hK hPc (ci := 6) (q0 := 0) rfl rfl, (pW.pre ⟨hK, hN⟩ hPc hDc)⟩ rfl rfl hl.1 rfl (lv_room (Nat.le_of_ble_eq_true rfl)) dX5_startCounts_54 ⟨Nat.le_of_ble_eq_true rfl, Nat.le_of_ble_eq_true rfl⟩) hS (fun q _ h => hFc q h) hFc (fun  u_18 tt H1 locs ht hvm hw hB hz1 hk1 hS => ?_)
      obtain ⟨hP1, hD1⟩ := hB
      rw [ht] at hP1
      obtain ⟨hP, hD⟩ := va_join (wr := []) (w1 := [(h, .inr (6, [.ref g1, .ref g2, .int ka, .int ko, .ref g3, .ref g4])), (g1, .inl (E.2.1, 81, .inl u_18))]) hP hD [0, 1] [] rfl rfl (by decide) (by decide) hk1 hFc hP1 hD1
      generalize H1 = H at hP hS ⊢
      have hP : va_P E.1 vwCl [(h, .inr (6, [.ref g1, .ref g2, .int ka, .int ko, .ref g3, .ref g4])), (g1, .inl (E.2.1, 81, .inl u_18))] H := hP
      have hD : va_D A [(h, .inr (6, [.ref g1, .ref g2, .int ka, .int ko, .ref g3, .ref g4])), (g1, .inl (E.2.1, 81, .inl u_18))] := hD
      have hsw_19 := hw
      have kk_20 := hsw_19
      refine lv_iinc (v := nI (i + 1)) (lv' := [(2, .int (nI (i + 1))), (0, .ref h), (1, .int p0)]) hx hb dX5_startCounts_57 hl (k := 2) rfl (show nI (i) + 1 = nI (i + 1) from nI_add _ 1) (by decide) rfl (fun ls hl => ?_)
      refine lv_goto (tgt := 33) hx hb dX5_startCounts_60 (by decide) ?_
      exact ih (i + 1) u_18 H locs ls (by omega) kk_20 (by omega) (hP.sub [0, 1] rfl) (hD.sub [0, 1] (by decide) rfl) hS (lv_sub hl [1, 2, 0] rfl)

set_option maxHeartbeats 4000000 in
set_option maxRecDepth 100000 in
theorem s_startCounts (l : Launch) (E : EE) (sz : Nat) (h g1 g2 g3 g4 k : Nat) (ka ko : Int32) (f : Nat → Int32) (p0 : Int32) (hk : f 3 = nI k) (hk8 : k ≤ 8) : Met l yX5_startCounts v_s_startCounts ({ frames := 1, cells := 0, slots := 0, locals := 23 }) (va_Pc [.ref h, .int p0] (pW E sz [(h, .inr (6, [.ref g1, .ref g2, .int ka, .int ko, .ref g3, .ref g4])), (g1, .inl (E.2.1, 81, .inl f))])) (va_Qv (fun (f1 : Nat → Int32) => f1 3 = nI k) (fun (f1 : Nat → Int32) tt => va_P E.1 vwCl [(h, .inr (6, [.ref g1, .ref g2, .int ka, .int ko, .ref g3, .ref g4])), (g1, .inl (E.2.1, 81, .inl f1))] tt.heap ∧ va_D (va_A [(h, .inr (6, [.ref g1, .ref g2, .int ka, .int ko, .ref g3, .ref g4])), (g1, .inl (E.2.1, 81, .inl f))] sz) [(h, .inr (6, [.ref g1, .ref g2, .int ka, .int ko, .ref g3, .ref g4])), (g1, .inl (E.2.1, 81, .inl f1))]) (va_A [(h, .inr (6, [.ref g1, .ref g2, .int ka, .int ko, .ref g3, .ref g4])), (g1, .inl (E.2.1, 81, .inl f))] sz)) 0 0 (va_A [(h, .inr (6, [.ref g1, .ref g2, .int ka, .int ko, .ref g3, .ref g4])), (g1, .inl (E.2.1, 81, .inl f))] sz) := by
  refine Met.ofW (cc := cX5_startCounts) (maxL := 3) (ret := none) (by decide) rfl ?_
  intro p e s m args below meth c s₁ B hml hv
  obtain ⟨rfl, hsz, ⟨hK, hN⟩, hP, hD0⟩ := hv
  have hx := B.exec
  have hb := B.bytes
  have hr := B.returns
  have hts := atoms_spec (ws := v_s_startCounts) B.pre
  have hown : s.vm.findClass RX5 = some m.cls := findClass_of_methodNamed B.named
  have hlocks := B.notSynchronized
  subst hsz
  have hD := hD0.self (sz := s.heap.size)
  generalize hAe : va_A [(h, .inr (6, [.ref g1, .ref g2, .int ka, .int ko, .ref g3, .ref g4])), (g1, .inl (E.2.1, 81, .inl f))] s.heap.size = A at hD ⊢
  have hA : ∀ q : Nat, s.heap.size ≤ q → A q := fun q h => by rw [← hAe]; exact Or.inr h
  have hS : va_S A s.heap s.heap [] := va_S.rf
  have hP : va_P E.1 vwCl [(h, .inr (6, [.ref g1, .ref g2, .int ka, .int ko, .ref g3, .ref g4])), (g1, .inl (E.2.1, 81, .inl f))] s.heap := hP
  have hl := lv_entry ([.ref h, .int p0]) (n := 3) (Nat.le_of_ble_eq_true rfl)
  rw [lg_entry_eq]
  generalize (lg_sl ([.ref h, .int p0]) ++ List.replicate (3 - (lg_sl ([.ref h, .int p0])).length) Slot.unset).toArray = ls at hl ⊢
  have hl : lv_has ls 3 [(0, .ref h), (1, .int p0)] := hl
  obtain ⟨Q, hQ⟩ : ∃ Q : State → Prop, Q = MQ below (va_Qv (fun (f1 : Nat → Int32) => f1 3 = nI k) (fun (f1 : Nat → Int32) tt => va_P E.1 vwCl [(h, .inr (6, [.ref g1, .ref g2, .int ka, .int ko, .ref g3, .ref g4])), (g1, .inl (E.2.1, 81, .inl f1))] tt.heap ∧ va_D A [(h, .inr (6, [.ref g1, .ref g2, .int ka, .int ko, .ref g3, .ref g4])), (g1, .inl (E.2.1, 81, .inl f1))]) A) #[Value.ref h, Value.int p0] s 0 0 A := ⟨_, rfl⟩
  rw [← hQ]
  change W p l e ({ frames := 1, cells := 0, slots := 0, locals := 23 } : Room) s m #[Value.ref h, Value.int p0] below meth c s.heap [] 0 0 Q (F0 m 0 ls [])
  refine lv_aload_n hx hb dX5_startCounts_0 rfl (lv_at hl 0 rfl) ?_
  refine va_get (D := E.1) (ci := 6) (v := .ref g1) (C := RX5) (T := TX5) (N := 6) hx hb hts i_s_startCounts_X5 hown hK hP 0 rfl rfl 0 (by decide) (hts (.fieldLink RX5 11 "HushWatch$State" "row" "[I") (List.mem_of_getElem? (i := 1) rfl)) (fun _ h9 => h9) rfl dX5_startCounts_1 ?_
  refine lv_iconst (v := 2) hx hb dX5_startCounts_4 (by decide) ?_
  refine lv_iload_n hx hb dX5_startCounts_5 rfl (lv_at hl 1 rfl) ?_
  refine va_iast hx hb hK hP hD hS 1 0 rfl rfl (vin rfl) dX5_startCounts_6 (fun H locs hP hD hS => ?_)
  have hP : va_P E.1 vwCl [(h, .inr (6, [.ref g1, .ref g2, .int ka, .int ko, .ref g3, .ref g4])), (g1, .inl (E.2.1, 81, .inl (upd f (2 : Int32).toNatClampNeg p0)))] H := hP
  have hD : va_D A [(h, .inr (6, [.ref g1, .ref g2, .int ka, .int ko, .ref g3, .ref g4])), (g1, .inl (E.2.1, 81, .inl (upd f (2 : Int32).toNatClampNeg p0)))] := hD
  obtain ⟨f_1, hf_1⟩ : ∃ g : Nat → Int32, g = upd f (2 : Int32).toNatClampNeg p0 := ⟨_, rfl⟩
  rw [← hf_1] at hP hD
  have kf_1_3 : f_1 3 = nI k := by rw [hf_1]; exact (upd_ne (by decide)).trans hk
  refine lv_aload_n hx hb dX5_startCounts_7 rfl (lv_at hl 0 rfl) ?_
  refine va_get (D := E.1) (ci := 6) (v := .ref g1) (C := RX5) (T := TX5) (N := 6) hx hb hts i_s_startCounts_X5 hown hK hP 0 rfl rfl 0 (by decide) (hts (.fieldLink RX5 11 "HushWatch$State" "row" "[I") (List.mem_of_getElem? (i := 1) rfl)) (fun _ h9 => h9) rfl dX5_startCounts_8 ?_
  refine lv_bipush (v := 8) hx hb dX5_startCounts_11 (by decide) ?_
  refine lv_iconst (v := 0) hx hb dX5_startCounts_13 (by decide) ?_
  refine va_iast hx hb hK hP hD hS 1 0 rfl rfl (vin rfl) dX5_startCounts_14 (fun H locs hP hD hS => ?_)
  have hP : va_P E.1 vwCl [(h, .inr (6, [.ref g1, .ref g2, .int ka, .int ko, .ref g3, .ref g4])), (g1, .inl (E.2.1, 81, .inl (upd f_1 (8 : Int32).toNatClampNeg 0)))] H := hP
  have hD : va_D A [(h, .inr (6, [.ref g1, .ref g2, .int ka, .int ko, .ref g3, .ref g4])), (g1, .inl (E.2.1, 81, .inl (upd f_1 (8 : Int32).toNatClampNeg 0)))] := hD
  obtain ⟨f_2, hf_2⟩ : ∃ g : Nat → Int32, g = upd f_1 (8 : Int32).toNatClampNeg 0 := ⟨_, rfl⟩
  rw [← hf_2] at hP hD
  have kf_2_3 : f_2 3 = nI k := by rw [hf_2]; exact (upd_ne (by decide)).trans kf_1_3
  refine lv_aload_n hx hb dX5_startCounts_15 rfl (lv_at hl 0 rfl) ?_
  refine va_get (D := E.1) (ci := 6) (v := .ref g1) (C := RX5) (T := TX5) (N := 6) hx hb hts i_s_startCounts_X5 hown hK hP 0 rfl rfl 0 (by decide) (hts (.fieldLink RX5 11 "HushWatch$State" "row" "[I") (List.mem_of_getElem? (i := 1) rfl)) (fun _ h9 => h9) rfl dX5_startCounts_16 ?_
  refine lv_bipush (v := 9) hx hb dX5_startCounts_19 (by decide) ?_
  refine lv_iconst (v := 0) hx hb dX5_startCounts_21 (by decide) ?_
  refine va_iast hx hb hK hP hD hS 1 0 rfl rfl (vin rfl) dX5_startCounts_22 (fun H locs hP hD hS => ?_)
  have hP : va_P E.1 vwCl [(h, .inr (6, [.ref g1, .ref g2, .int ka, .int ko, .ref g3, .ref g4])), (g1, .inl (E.2.1, 81, .inl (upd f_2 (9 : Int32).toNatClampNeg 0)))] H := hP
  have hD : va_D A [(h, .inr (6, [.ref g1, .ref g2, .int ka, .int ko, .ref g3, .ref g4])), (g1, .inl (E.2.1, 81, .inl (upd f_2 (9 : Int32).toNatClampNeg 0)))] := hD
  obtain ⟨f_3, hf_3⟩ : ∃ g : Nat → Int32, g = upd f_2 (9 : Int32).toNatClampNeg 0 := ⟨_, rfl⟩
  rw [← hf_3] at hP hD
  have kf_3_3 : f_3 3 = nI k := by rw [hf_3]; exact (upd_ne (by decide)).trans kf_2_3
  refine lv_aload_n hx hb dX5_startCounts_23 rfl (lv_at hl 0 rfl) ?_
  refine va_get (D := E.1) (ci := 6) (v := .ref g1) (C := RX5) (T := TX5) (N := 6) hx hb hts i_s_startCounts_X5 hown hK hP 0 rfl rfl 0 (by decide) (hts (.fieldLink RX5 11 "HushWatch$State" "row" "[I") (List.mem_of_getElem? (i := 1) rfl)) (fun _ h9 => h9) rfl dX5_startCounts_24 ?_
  refine lv_bipush (v := 10) hx hb dX5_startCounts_27 (by decide) ?_
  refine lv_iconst (v := 0) hx hb dX5_startCounts_29 (by decide) ?_
  refine va_iast hx hb hK hP hD hS 1 0 rfl rfl (vin rfl) dX5_startCounts_30 (fun H locs hP hD hS => ?_)
  have hP : va_P E.1 vwCl [(h, .inr (6, [.ref g1, .ref g2, .int ka, .int ko, .ref g3, .ref g4])), (g1, .inl (E.2.1, 81, .inl (upd f_3 (10 : Int32).toNatClampNeg 0)))] H := hP
  have hD : va_D A [(h, .inr (6, [.ref g1, .ref g2, .int ka, .int ko, .ref g3, .ref g4])), (g1, .inl (E.2.1, 81, .inl (upd f_3 (10 : Int32).toNatClampNeg 0)))] := hD
  obtain ⟨f_4, hf_4⟩ : ∃ g : Nat → Int32, g = upd f_3 (10 : Int32).toNatClampNeg 0 := ⟨_, rfl⟩
  rw [← hf_4] at hP hD
  have kf_4_3 : f_4 3 = nI k := by rw [hf_4]; exact (upd_ne (by decide)).trans kf_3_3
  refine lv_iconst (v := 0) hx hb dX5_startCounts_31 (by decide) ?_
  refine lv_istore_n (lv' := [(2, .int 0), (0, .ref h), (1, .int p0)]) hx hb dX5_startCounts_32 rfl hl (by decide) rfl (fun ls hl => ?_)
  refine lp_s_startCounts_33 (h := h) (g1 := g1) (g2 := g2) (g3 := g3) (g4 := g4) (k := k) (ka := ka) (ko := ko) (f := f) (p0 := p0) l E hk hk8 hx hb hml hown hts hK hN hA ?_ (10) 0 f_4 H locs ls (by omega) kf_4_3 (by omega) (hP.sub [0, 1] rfl) (hD.sub [0, 1] (by decide) rfl) hS (lv_sub hl [1, 2, 0] rfl)
  ·
    intro i f1 H locs ls hi kf1_3 hP hD hS hl
    rw [hQ]
    have hP9 := hP.sub (ws' := [(h, .inr (6, [.ref g1, .ref g2, .int ka, .int ko, .ref g3, .ref g4])), (g1, .inl (E.2.1, 81, .inl f1))]) [0, 1] rfl
    have hD9 := hD.sub (ws' := [(h, .inr (6, [.ref g1, .ref g2, .int ka, .int ko, .ref g3, .ref g4])), (g1, .inl (E.2.1, 81, .inl f1))]) [0, 1] (by decide) rfl
    exact W.vret hx hb hr (fun tt ht hW => ⟨⟨f1, rfl, kf1_3, by rw [ht]; exact hP9, hD9⟩, hS.F ht⟩) hS.2.2 dX5_startCounts_63

def v_s_addTo : List Cond := .code yX5_addTo cX5_addTo 6 (some .int) :: ([.fieldLink RX5 11 "HushWatch$State" "row" "[I", .methodLink RX5 69 yX5_of, .instanceMethod yX5_of, .selects RX5 yX5_of yX5_of, .initialized RX5, .methodLink RX5 52 yX5_put, .instanceMethod yX5_put, .selects RX5 yX5_put yX5_put, .methodLink RX5 182 yX5_stepFrom, .instanceMethod yX5_stepFrom, .selects RX5 yX5_stepFrom yX5_stepFrom, .methodLink RX5 185 yX5_endRound, .instanceMethod yX5_endRound, .selects RX5 yX5_endRound yX5_endRound] ++ (v_s_of ++ (v_s_put ++ (wsX50 ++ (v_s_stepFrom ++ (v_s_endRound ++ ([])))))))
theorem gw_s_addTo : v_s_addTo.all goodWord = true := by decide +kernel
theorem i_s_addTo_X5 : ∀ w ∈ wsX50, w ∈ v_s_addTo := fun _ h => List.mem_cons_of_mem _ (List.mem_append_right _ (List.mem_append_right _ (List.mem_append_right _ (List.mem_append_left _ h))))
theorem g_s_addTo_s_of_69 : GoodIn v_s_addTo (wsV RX5 69 RX5 yX5_of v_s_of) := goodIn_app (goodIn_of _ (by decide +kernel)) (goodIn_sub (fun _ h => List.mem_cons_of_mem _ (List.mem_append_right _ (List.mem_append_left _ h))) gw_s_of)
theorem g_s_addTo_s_put_52 : GoodIn v_s_addTo (wsV RX5 52 RX5 yX5_put v_s_put) := goodIn_app (goodIn_of _ (by decide +kernel)) (goodIn_sub (fun _ h => List.mem_cons_of_mem _ (List.mem_append_right _ (List.mem_append_right _ (List.mem_append_left _ h)))) gw_s_put)
theorem g_s_addTo_s_stepFrom_182 : GoodIn v_s_addTo (wsV RX5 182 RX5 yX5_stepFrom v_s_stepFrom) := goodIn_app (goodIn_of _ (by decide +kernel)) (goodIn_sub (fun _ h => List.mem_cons_of_mem _ (List.mem_append_right _ (List.mem_append_right _ (List.mem_append_right _ (List.mem_append_right _ (List.mem_append_left _ h)))))) gw_s_stepFrom)
theorem g_s_addTo_s_endRound_185 : GoodIn v_s_addTo (wsV RX5 185 RX5 yX5_endRound v_s_endRound) := goodIn_app (goodIn_of _ (by decide +kernel)) (goodIn_sub (fun _ h => List.mem_cons_of_mem _ (List.mem_append_right _ (List.mem_append_right _ (List.mem_append_right _ (List.mem_append_right _ (List.mem_append_right _ (List.mem_append_left _ h))))))) gw_s_endRound)
set_option maxHeartbeats 4000000 in
set_option maxRecDepth 100000 in
theorem lp_s_addTo_67 {p : Program} (l : Launch) {e : Env} {s : State} {m : MethodId} {below : List Frame} {meth : Method} {c : Code} {Q : State → Prop} (E : EE) {h g1 g2 g3 g4 k : Nat} {ka ko : Int32} {f : Nat → Int32} {p0 p1 : Int32} (hk : f 3 = nI k) (hk8 : k ≤ 8) (hx : p.tables.exec = Jvm.exec) (hb : c.code = cX5_addTo) (hml : c.maxLocals = 6) (hown : s.vm.findClass RX5 = some m.cls) (hts : ∀ w ∈ v_s_addTo, w.before #[Value.ref h, Value.int p0, Value.int p1] s = true) (hK : va_K E.1 vwCl (TY E) s) (hN : NX s) (r_7 : Int32) {A : Nat → Prop} (hA : ∀ q : Nat, s.heap.size ≤ q → A q) (KX131 : ∀ (v4 : Int32), ∀ (i : Nat), ∀ (f1 : Nat → Int32), ∀ (H : Heap) (locs : List Loc) (ls : Array Slot), i ≤ 8 → f1 3 = nI k → va_P E.1 vwCl [(h, .inr (6, [.ref g1, .ref g2, .int ka, .int ko, .ref g3, .ref g4])), (g1, .inl (E.2.1, 81, .inl f1))] H → va_D A [(h, .inr (6, [.ref g1, .ref g2, .int ka, .int ko, .ref g3, .ref g4])), (g1, .inl (E.2.1, 81, .inl f1))] → va_S A s.heap H locs → lv_has ls 6 [(0, .ref h), (1, .int p0), (2, .int p1), (3, .int r_7), (4, .int v4), (5, .int (nI i))] → W p l e ({ frames := 3, cells := 0, slots := 0, locals := 66 } : Room) s m #[Value.ref h, Value.int p0, Value.int p1] below meth c H locs 0 0 Q (F0 m 131 ls [])) (KX153 : ∀ (v4 : Int32), ∀ (i : Nat), ∀ (f1 : Nat → Int32), ∀ (H : Heap) (locs : List Loc) (ls : Array Slot), i ≤ 8 → f1 3 = nI k → va_P E.1 vwCl [(h, .inr (6, [.ref g1, .ref g2, .int ka, .int ko, .ref g3, .ref g4])), (g1, .inl (E.2.1, 81, .inl f1))] H → va_D A [(h, .inr (6, [.ref g1, .ref g2, .int ka, .int ko, .ref g3, .ref g4])), (g1, .inl (E.2.1, 81, .inl f1))] → va_S A s.heap H locs → lv_has ls 6 [(0, .ref h), (1, .int p0), (2, .int p1), (3, .int r_7), (4, .int v4), (5, .int (nI i))] → W p l e ({ frames := 3, cells := 0, slots := 0, locals := 66 } : Room) s m #[Value.ref h, Value.int p0, Value.int p1] below meth c H locs 0 0 Q (F0 m 153 ls [])) : ∀ fuel9 : Nat, ∀ (v4 : Int32), ∀ (i : Nat), ∀ (f1 : Nat → Int32), ∀ (H : Heap) (locs : List Loc) (ls : Array Slot), i ≤ 8 → f1 3 = nI k → (9 - i) < fuel9 → va_P E.1 vwCl [(h, .inr (6, [.ref g1, .ref g2, .int ka, .int ko, .ref g3, .ref g4])), (g1, .inl (E.2.1, 81, .inl f1))] H → va_D A [(h, .inr (6, [.ref g1, .ref g2, .int ka, .int ko, .ref g3, .ref g4])), (g1, .inl (E.2.1, 81, .inl f1))] → va_S A s.heap H locs → lv_has ls 6 [(0, .ref h), (1, .int p0), (2, .int p1), (3, .int r_7), (4, .int v4), (5, .int (nI i))] → W p l e ({ frames := 3, cells := 0, slots := 0, locals := 66 } : Room) s m #[Value.ref h, Value.int p0, Value.int p1] below meth c H locs 0 0 Q (F0 m 67 ls []) := by
  intro fuel9
  induction fuel9 with
  | zero =>
    intro v4 i f1 H locs ls hi kf1_3 hms hP hD hS hl
    omega
  | succ fuel9 ih =>
    intro v4 i f1 H locs ls hi kf1_3 hms hP hD hS hl
    refine lv_iload hx hb dX5_addTo_67 (lv_at hl 5 rfl) ?_
    refine lv_bipush (v := 8) hx hb dX5_addTo_69 (by decide) ?_
    refine lv_icmp_ge (tgt := 153) hx hb dX5_addTo_71 (by decide) (fun c_14 => ?_) (fun c_14 => ?_)
    ·
      have d_15 : 8 ≤ i := nc_ge (a := i) (b := 8) (by omega) (by omega) c_14
      exact KX153 v4 i f1 H locs ls (by omega) kf1_3 (hP.sub [0, 1] rfl) (hD.sub [0, 1] (by decide) rfl) hS (lv_sub hl [0, 1, 2, 3, 4, 5] rfl)
    ·
      have d_16 : ¬ (8 ≤ i) := nc_ge_n (a := i) (b := 8) (by omega) (by omega) c_14
      refine lv_aload_n hx hb dX5_addTo_74 rfl (lv_at hl 0 rfl) ?_
      refine lv_iload_n hx hb dX5_addTo_75 rfl (lv_at hl 1 rfl) ?_
      refine lv_bipush (v := 7) hx hb dX5_addTo_76 (by decide) ?_
      have hPc := hP.sub (ws' := [(h, .inr (6, [.ref g1, .ref g2, .int ka, .int ko, .ref g3, .ref g4])), (g1, .inl (E.2.1, 81, .inl f1))]) [0, 1] rfl
      refine pc_i (va_runV (As := [.int p0, .int 7]) (rest := []) ⟨hx, hb, hml, hown, hts⟩ (s_of l E h g1 g2 g3 g4 k ka ko f1 p0 7 kf1_3 (by omega)) (cwV 2 hts g_s_addTo_s_of_69 rfl rfl rfl (by decide +kernel) ⟨Nat.le_of_ble_eq_true rfl, Nat.le_of_ble_eq_true rfl⟩) ⟨pP.blind, va_recv hK hPc (ci := 6) (q0 := 0) rfl rfl, (pP.pre ⟨hK, hN⟩ hPc)⟩ rfl rfl hl.1 rfl (lv_room (Nat.le_of_ble_eq_true rfl)) dX5_addTo_78 ⟨Nat.le_of_ble_eq_true rfl, Nat.le_of_ble_eq_true rfl⟩) (fun r_17 hr_17 => ?_)
      refine lv_iload_n hx hb dX5_addTo_81 rfl (lv_at hl 3 rfl) ?_
      refine lv_icmp_lt (tgt := 153) hx hb dX5_addTo_82 (by decide) (fun c_18 => ?_) (fun c_18 => ?_)
      ·
        exact KX153 v4 i f1 H locs ls (by omega) kf1_3 (hP.sub [0, 1] rfl) (hD.sub [0, 1] (by decide) rfl) hS (lv_sub hl [0, 1, 2, 3, 4, 5] rfl)
      ·
        refine lv_aload_n hx hb dX5_addTo_85 rfl (lv_at hl 0 rfl) ?_
        refine lv_iload_n hx hb dX5_addTo_86 rfl (lv_at hl 1 rfl) ?_
        refine lv_bipush (v := 7) hx hb dX5_addTo_87 (by decide) ?_
        refine lv_aload_n hx hb dX5_addTo_89 rfl (lv_at hl 0 rfl) ?_
        refine lv_iload_n hx hb dX5_addTo_90 rfl (lv_at hl 1 rfl) ?_
        refine lv_bipush (v := 7) hx hb dX5_addTo_91 (by decide) ?_
        have hPc := hP.sub (ws' := [(h, .inr (6, [.ref g1, .ref g2, .int ka, .int ko, .ref g3, .ref g4])), (g1, .inl (E.2.1, 81, .inl f1))]) [0, 1] rfl
        refine pc_i (va_runV (As := [.int p0, .int 7]) (rest := [.int 7, .int p0, .ref h]) ⟨hx, hb, hml, hown, hts⟩ (s_of l E h g1 g2 g3 g4 k ka ko f1 p0 7 kf1_3 (by omega)) (cwV 2 hts g_s_addTo_s_of_69 rfl rfl rfl (by decide +kernel) ⟨Nat.le_of_ble_eq_true rfl, Nat.le_of_ble_eq_true rfl⟩) ⟨pP.blind, va_recv hK hPc (ci := 6) (q0 := 0) rfl rfl, (pP.pre ⟨hK, hN⟩ hPc)⟩ rfl rfl hl.1 rfl (lv_room (Nat.le_of_ble_eq_true rfl)) dX5_addTo_93 ⟨Nat.le_of_ble_eq_true rfl, Nat.le_of_ble_eq_true rfl⟩) (fun r_19 hr_19 => ?_)
        refine lv_iload_n hx hb dX5_addTo_96 rfl (lv_at hl 3 rfl) ?_
        refine lv_isub hx hb dX5_addTo_97 ?_
        refine lv_topi (fun z_20 ez_20 => ?_)
        have hPc := hP.sub (ws' := [(h, .inr (6, [.ref g1, .ref g2, .int ka, .int ko, .ref g3, .ref g4])), (g1, .inl (E.2.1, 81, .inl f1))]) [0, 1] rfl
        have hDc := hD.sub (ws' := [(h, .inr (6, [.ref g1, .ref g2, .int ka, .int ko, .ref g3, .ref g4])), (g1, .inl (E.2.1, 81, .inl f1))]) [0, 1] (by decide) rfl
        have hFc := va_free (wc := [(h, .inr (6, [.ref g1, .ref g2, .int ka, .int ko, .ref g3, .ref g4])), (g1, .inl (E.2.1, 81, .inl f1))]) hD hS hA [0, 1] rfl
        refine va_callv (va_runV (As := [.int p0, .int 7, .int z_20]) (rest := []) ⟨hx, hb, hml, hown, hts⟩ (s_put l E H.size h g1 g2 g3 g4 k ka ko f1 p0 7 z_20 kf1_3 (by omega)) (cwV 3 hts g_s_addTo_s_put_52 rfl rfl rfl (by decide +kernel) ⟨Nat.le_of_ble_eq_true rfl, Nat.le_of_ble_eq_true rfl⟩) ⟨pW.blind, va_recv hK hPc (ci := 6) (q0 := 0) rfl rfl, (pW.pre ⟨hK, hN⟩ hPc hDc)⟩ rfl rfl hl.1 rfl (lv_room (Nat.le_of_ble_eq_true rfl)) dX5_addTo_98 ⟨Nat.le_of_ble_eq_true rfl, Nat.le_of_ble_eq_true rfl⟩) hS (fun q _ h => hFc q h) hFc (fun  u_21 tt H1 locs ht hvm hw hB hz1 hk1 hS => ?_)
        obtain ⟨hP1, hD1⟩ := hB
        rw [ht] at hP1
        obtain ⟨hP, hD⟩ := va_join (wr := []) (w1 := [(h, .inr (6, [.ref g1, .ref g2, .int ka, .int ko, .ref g3, .ref g4])), (g1, .inl (E.2.1, 81, .inl u_21))]) hP hD [0, 1] [] rfl rfl (by decide) (by decide) hk1 hFc hP1 hD1
        generalize H1 = H at hP hS ⊢
        have hP : va_P E.1 vwCl [(h, .inr (6, [.ref g1, .ref g2, .int ka, .int ko, .ref g3, .ref g4])), (g1, .inl (E.2.1, 81, .inl u_21))] H := hP
        have hD : va_D A [(h, .inr (6, [.ref g1, .ref g2, .int ka, .int ko, .ref g3, .ref g4])), (g1, .inl (E.2.1, 81, .inl u_21))] := hD
        have hsw_22 := hw
        have kk_23 := hsw_22
        refine lv_aload_n hx hb dX5_addTo_101 rfl (lv_at hl 0 rfl) ?_
        refine va_get (D := E.1) (ci := 6) (v := .ref g1) (C := RX5) (T := TX5) (N := 6) hx hb hts i_s_addTo_X5 hown hK hP 0 rfl rfl 0 (by decide) (hts (.fieldLink RX5 11 "HushWatch$State" "row" "[I") (List.mem_of_getElem? (i := 1) rfl)) (fun _ h9 => h9) rfl dX5_addTo_102 ?_
        refine lv_bipush (v := 9) hx hb dX5_addTo_105 (by decide) ?_
        refine lv_dup2_11 hx hb dX5_addTo_107 rfl rfl ?_
        refine va_iald hx hb hK hP 1 0 rfl rfl (vin rfl) dX5_addTo_108 ?_
        refine W.eq (g2 := F0 m 109 ls [.int (u_21 9), .int 9, .ref g1]) rfl ?_
        refine lv_topi (fun z_24 ez_24 => ?_)
        refine lv_iconst (v := 1) hx hb dX5_addTo_109 (by decide) ?_
        refine lv_iadd hx hb dX5_addTo_110 ?_
        refine lv_topi (fun z_25 ez_25 => ?_)
        refine va_iast hx hb hK hP hD hS 1 0 rfl rfl (vin rfl) dX5_addTo_111 (fun H locs hP hD hS => ?_)
        have hP : va_P E.1 vwCl [(h, .inr (6, [.ref g1, .ref g2, .int ka, .int ko, .ref g3, .ref g4])), (g1, .inl (E.2.1, 81, .inl (upd u_21 (9 : Int32).toNatClampNeg z_25)))] H := hP
        have hD : va_D A [(h, .inr (6, [.ref g1, .ref g2, .int ka, .int ko, .ref g3, .ref g4])), (g1, .inl (E.2.1, 81, .inl (upd u_21 (9 : Int32).toNatClampNeg z_25)))] := hD
        obtain ⟨f_26, hf_26⟩ : ∃ g : Nat → Int32, g = upd u_21 (9 : Int32).toNatClampNeg z_25 := ⟨_, rfl⟩
        rw [← hf_26] at hP hD
        have kf_26_3 : f_26 3 = nI k := by rw [hf_26]; exact (upd_ne (by decide)).trans kk_23
        obtain ⟨z_27, ez_27⟩ : ∃ y : Int32, y = v4 + 1 := ⟨_, rfl⟩
        refine lv_iinc (v := z_27) (lv' := [(4, .int z_27), (0, .ref h), (1, .int p0), (2, .int p1), (3, .int r_7), (5, .int (nI i))]) hx hb dX5_addTo_112 hl (k := 4) rfl (by rw [ez_27]; rfl) (by decide) rfl (fun ls hl => ?_)
        refine lv_aload_n hx hb dX5_addTo_115 rfl (lv_at hl 1 rfl) ?_
        refine va_get (D := E.1) (ci := 6) (v := .ref g1) (C := RX5) (T := TX5) (N := 6) hx hb hts i_s_addTo_X5 hown hK hP 0 rfl rfl 0 (by decide) (hts (.fieldLink RX5 11 "HushWatch$State" "row" "[I") (List.mem_of_getElem? (i := 1) rfl)) (fun _ h9 => h9) rfl dX5_addTo_116 ?_
        refine lv_bipush (v := 9) hx hb dX5_addTo_119 (by decide) ?_
        refine va_iald hx hb hK hP 1 0 rfl rfl (vin rfl) dX5_addTo_121 ?_
        refine W.eq (g2 := F0 m 122 ls [.int (f_26 9)]) rfl ?_
        refine lv_topi (fun z_28 ez_28 => ?_)
        refine lv_aload_n hx hb dX5_addTo_122 rfl (lv_at hl 1 rfl) ?_
        refine va_get (D := E.1) (ci := 6) (v := .ref g1) (C := RX5) (T := TX5) (N := 6) hx hb hts i_s_addTo_X5 hown hK hP 0 rfl rfl 0 (by decide) (hts (.fieldLink RX5 11 "HushWatch$State" "row" "[I") (List.mem_of_getElem? (i := 1) rfl)) (fun _ h9 => h9) rfl dX5_addTo_123 ?_
        refine lv_iconst (v := 3) hx hb dX5_addTo_126 (by decide) ?_
        refine va_iald hx hb hK hP 1 0 rfl rfl (vin rfl) dX5_addTo_127 ?_
        refine W.eq (g2 := F0 m 128 ls [.int (f_26 3), .int z_28]) rfl ?_
        refine W.eq (g2 := F0 m 128 ls [.int (nI k), .int z_28]) (by rw [kf_26_3]) ?_
        refine lv_icmp_lt (tgt := 147) hx hb dX5_addTo_128 (by decide) (fun c_29 => ?_) (fun c_29 => ?_)
        ·
          refine lv_iinc (v := nI (i + 1)) (lv' := [(5, .int (nI (i + 1))), (4, .int z_27), (0, .ref h), (1, .int p0), (2, .int p1), (3, .int r_7)]) hx hb dX5_addTo_147 hl (k := 5) rfl (show nI (i) + 1 = nI (i + 1) from nI_add _ 1) (by decide) rfl (fun ls hl => ?_)
          refine lv_goto (tgt := 67) hx hb dX5_addTo_150 (by decide) ?_
          exact ih z_27 (i + 1) f_26 H locs ls (by omega) kf_26_3 (by omega) (hP.sub [0, 1] rfl) (hD.sub [0, 1] (by decide) rfl) hS (lv_sub hl [2, 3, 4, 5, 1, 0] rfl)
        ·
          exact KX131 z_27 i f_26 H locs ls (by omega) kf_26_3 (hP.sub [0, 1] rfl) (hD.sub [0, 1] (by decide) rfl) hS (lv_sub hl [1, 2, 3, 4, 0, 5] rfl)

set_option maxHeartbeats 4000000 in
set_option maxRecDepth 100000 in
theorem s_addTo (l : Launch) (E : EE) (sz : Nat) (h g1 g2 g3 g4 k : Nat) (ka ko : Int32) (f : Nat → Int32) (p0 p1 : Int32) (hk : f 3 = nI k) (hk8 : k ≤ 8) : Met l yX5_addTo v_s_addTo ({ frames := 3, cells := 0, slots := 0, locals := 66 }) (va_Pc [.ref h, .int p0, .int p1] (pW E sz [(h, .inr (6, [.ref g1, .ref g2, .int ka, .int ko, .ref g3, .ref g4])), (g1, .inl (E.2.1, 81, .inl f))])) (va_Qi (fun (r : Int32) (f1 : Nat → Int32) => (True) ∧ f1 3 = nI k) (fun (f1 : Nat → Int32) tt => va_P E.1 vwCl [(h, .inr (6, [.ref g1, .ref g2, .int ka, .int ko, .ref g3, .ref g4])), (g1, .inl (E.2.1, 81, .inl f1))] tt.heap ∧ va_D (va_A [(h, .inr (6, [.ref g1, .ref g2, .int ka, .int ko, .ref g3, .ref g4])), (g1, .inl (E.2.1, 81, .inl f))] sz) [(h, .inr (6, [.ref g1, .ref g2, .int ka, .int ko, .ref g3, .ref g4])), (g1, .inl (E.2.1, 81, .inl f1))]) (va_A [(h, .inr (6, [.ref g1, .ref g2, .int ka, .int ko, .ref g3, .ref g4])), (g1, .inl (E.2.1, 81, .inl f))] sz)) 0 0 (va_A [(h, .inr (6, [.ref g1, .ref g2, .int ka, .int ko, .ref g3, .ref g4])), (g1, .inl (E.2.1, 81, .inl f))] sz) := by
  refine Met.ofW (cc := cX5_addTo) (maxL := 6) (ret := (some .int)) (by decide) rfl ?_
  intro p e s m args below meth c s₁ B hml hv
  obtain ⟨rfl, hsz, ⟨hK, hN⟩, hP, hD0⟩ := hv
  have hx := B.exec
  have hb := B.bytes
  have hr := B.returns
  have hts := atoms_spec (ws := v_s_addTo) B.pre
  have hown : s.vm.findClass RX5 = some m.cls := findClass_of_methodNamed B.named
  have hlocks := B.notSynchronized
  subst hsz
  have hD := hD0.self (sz := s.heap.size)
  generalize hAe : va_A [(h, .inr (6, [.ref g1, .ref g2, .int ka, .int ko, .ref g3, .ref g4])), (g1, .inl (E.2.1, 81, .inl f))] s.heap.size = A at hD ⊢
  have hA : ∀ q : Nat, s.heap.size ≤ q → A q := fun q h => by rw [← hAe]; exact Or.inr h
  have hS : va_S A s.heap s.heap [] := va_S.rf
  have hP : va_P E.1 vwCl [(h, .inr (6, [.ref g1, .ref g2, .int ka, .int ko, .ref g3, .ref g4])), (g1, .inl (E.2.1, 81, .inl f))] s.heap := hP
  have hl := lv_entry ([.ref h, .int p0, .int p1]) (n := 6) (Nat.le_of_ble_eq_true rfl)
  rw [lg_entry_eq]
  generalize (lg_sl ([.ref h, .int p0, .int p1]) ++ List.replicate (6 - (lg_sl ([.ref h, .int p0, .int p1])).length) Slot.unset).toArray = ls at hl ⊢
  have hl : lv_has ls 6 [(0, .ref h), (1, .int p0), (2, .int p1)] := hl
  obtain ⟨Q, hQ⟩ : ∃ Q : State → Prop, Q = MQ below (va_Qi (fun (r : Int32) (f1 : Nat → Int32) => (True) ∧ f1 3 = nI k) (fun (f1 : Nat → Int32) tt => va_P E.1 vwCl [(h, .inr (6, [.ref g1, .ref g2, .int ka, .int ko, .ref g3, .ref g4])), (g1, .inl (E.2.1, 81, .inl f1))] tt.heap ∧ va_D A [(h, .inr (6, [.ref g1, .ref g2, .int ka, .int ko, .ref g3, .ref g4])), (g1, .inl (E.2.1, 81, .inl f1))]) A) #[Value.ref h, Value.int p0, Value.int p1] s 0 0 A := ⟨_, rfl⟩
  rw [← hQ]
  change W p l e ({ frames := 3, cells := 0, slots := 0, locals := 66 } : Room) s m #[Value.ref h, Value.int p0, Value.int p1] below meth c s.heap [] 0 0 Q (F0 m 0 ls [])
  refine lv_aload_n hx hb dX5_addTo_0 rfl (lv_at hl 0 rfl) ?_
  refine lv_iload_n hx hb dX5_addTo_1 rfl (lv_at hl 1 rfl) ?_
  refine lv_bipush (v := 6) hx hb dX5_addTo_2 (by decide) ?_
  refine lv_aload_n hx hb dX5_addTo_4 rfl (lv_at hl 0 rfl) ?_
  refine lv_iload_n hx hb dX5_addTo_5 rfl (lv_at hl 1 rfl) ?_
  refine lv_bipush (v := 6) hx hb dX5_addTo_6 (by decide) ?_
  have hPc := hP.sub (ws' := [(h, .inr (6, [.ref g1, .ref g2, .int ka, .int ko, .ref g3, .ref g4])), (g1, .inl (E.2.1, 81, .inl f))]) [0, 1] rfl
  refine pc_i (va_runV (As := [.int p0, .int 6]) (rest := [.int 6, .int p0, .ref h]) ⟨hx, hb, hml, hown, hts⟩ (s_of l E h g1 g2 g3 g4 k ka ko f p0 6 hk (by omega)) (cwV 2 hts g_s_addTo_s_of_69 rfl rfl rfl (by decide +kernel) ⟨Nat.le_of_ble_eq_true rfl, Nat.le_of_ble_eq_true rfl⟩) ⟨pP.blind, va_recv hK hPc (ci := 6) (q0 := 0) rfl rfl, (pP.pre ⟨hK, hN⟩ hPc)⟩ rfl rfl hl.1 rfl (lv_room (Nat.le_of_ble_eq_true rfl)) dX5_addTo_8 ⟨Nat.le_of_ble_eq_true rfl, Nat.le_of_ble_eq_true rfl⟩) (fun r_1 hr_1 => ?_)
  refine lv_iload_n hx hb dX5_addTo_11 rfl (lv_at hl 2 rfl) ?_
  refine lv_iadd hx hb dX5_addTo_12 ?_
  refine lv_topi (fun z_2 ez_2 => ?_)
  have hPc := hP.sub (ws' := [(h, .inr (6, [.ref g1, .ref g2, .int ka, .int ko, .ref g3, .ref g4])), (g1, .inl (E.2.1, 81, .inl f))]) [0, 1] rfl
  have hDc := hD.sub (ws' := [(h, .inr (6, [.ref g1, .ref g2, .int ka, .int ko, .ref g3, .ref g4])), (g1, .inl (E.2.1, 81, .inl f))]) [0, 1] (by decide) rfl
  have hFc := va_free (wc := [(h, .inr (6, [.ref g1, .ref g2, .int ka, .int ko, .ref g3, .ref g4])), (g1, .inl (E.2.1, 81, .inl f))]) hD hS hA [0, 1] rfl
  refine va_callv (va_runV (As := [.int p0, .int 6, .int z_2]) (rest := []) ⟨hx, hb, hml, hown, hts⟩ (s_put l E s.heap.size h g1 g2 g3 g4 k ka ko f p0 6 z_2 hk (by omega)) (cwV 3 hts g_s_addTo_s_put_52 rfl rfl rfl (by decide +kernel) ⟨Nat.le_of_ble_eq_true rfl, Nat.le_of_ble_eq_true rfl⟩) ⟨pW.blind, va_recv hK hPc (ci := 6) (q0 := 0) rfl rfl, (pW.pre ⟨hK, hN⟩ hPc hDc)⟩ rfl rfl hl.1 rfl (lv_room (Nat.le_of_ble_eq_true rfl)) dX5_addTo_13 ⟨Nat.le_of_ble_eq_true rfl, Nat.le_of_ble_eq_true rfl⟩) hS (fun q _ h => hFc q h) hFc (fun  u_3 tt H1 locs ht hvm hw hB hz1 hk1 hS => ?_)
  obtain ⟨hP1, hD1⟩ := hB
  rw [ht] at hP1
  obtain ⟨hP, hD⟩ := va_join (wr := []) (w1 := [(h, .inr (6, [.ref g1, .ref g2, .int ka, .int ko, .ref g3, .ref g4])), (g1, .inl (E.2.1, 81, .inl u_3))]) hP hD [0, 1] [] rfl rfl (by decide) (by decide) hk1 hFc hP1 hD1
  generalize H1 = H at hP hS ⊢
  have hP : va_P E.1 vwCl [(h, .inr (6, [.ref g1, .ref g2, .int ka, .int ko, .ref g3, .ref g4])), (g1, .inl (E.2.1, 81, .inl u_3))] H := hP
  have hD : va_D A [(h, .inr (6, [.ref g1, .ref g2, .int ka, .int ko, .ref g3, .ref g4])), (g1, .inl (E.2.1, 81, .inl u_3))] := hD
  have hsw_4 := hw
  have kk_5 := hsw_4
  refine lv_aload_n hx hb dX5_addTo_16 rfl (lv_at hl 0 rfl) ?_
  refine lv_aload_n hx hb dX5_addTo_17 rfl (lv_at hl 0 rfl) ?_
  refine va_get (D := E.1) (ci := 6) (v := .ref g1) (C := RX5) (T := TX5) (N := 6) hx hb hts i_s_addTo_X5 hown hK hP 0 rfl rfl 0 (by decide) (hts (.fieldLink RX5 11 "HushWatch$State" "row" "[I") (List.mem_of_getElem? (i := 1) rfl)) (fun _ h9 => h9) rfl dX5_addTo_18 ?_
  refine lv_bipush (v := 8) hx hb dX5_addTo_21 (by decide) ?_
  refine va_iald hx hb hK hP 1 0 rfl rfl (vin rfl) dX5_addTo_23 ?_
  refine W.eq (g2 := F0 m 24 ls [.int (u_3 8), .ref h]) rfl ?_
  refine lv_topi (fun z_6 ez_6 => ?_)
  have hPc := hP.sub (ws' := [(h, .inr (6, [.ref g1, .ref g2, .int ka, .int ko, .ref g3, .ref g4])), (g1, .inl (E.2.1, 81, .inl u_3))]) [0, 1] rfl
  refine pc_i (va_runV (As := [.int z_6]) (rest := []) ⟨hx, hb, hml, hown, hts⟩ (s_stepFrom l E h g1 g2 g3 g4 k ka ko u_3 z_6 kk_5 (by omega)) (cwV 1 hts g_s_addTo_s_stepFrom_182 rfl rfl rfl (by decide +kernel) ⟨Nat.le_of_ble_eq_true rfl, Nat.le_of_ble_eq_true rfl⟩) ⟨pP.blind, va_recv hK hPc (ci := 6) (q0 := 0) rfl rfl, (pP.pre ⟨hK, hN⟩ hPc)⟩ rfl rfl hl.1 rfl (lv_room (Nat.le_of_ble_eq_true rfl)) dX5_addTo_24 ⟨Nat.le_of_ble_eq_true rfl, Nat.le_of_ble_eq_true rfl⟩) (fun r_7 hr_7 => ?_)
  refine lv_istore_n (lv' := [(3, .int r_7), (0, .ref h), (1, .int p0), (2, .int p1)]) hx hb dX5_addTo_27 rfl hl (by decide) rfl (fun ls hl => ?_)
  refine lv_iload_n hx hb dX5_addTo_28 rfl (lv_at hl 0 rfl) ?_
  refine lv_if_ne (tgt := 45) hx hb dX5_addTo_29 (by decide) (fun c_8 => ?_) (fun c_8 => ?_)
  ·
    refine lv_aload_n hx hb dX5_addTo_45 rfl (lv_at hl 1 rfl) ?_
    refine lv_iload_n hx hb dX5_addTo_46 rfl (lv_at hl 2 rfl) ?_
    refine lv_bipush (v := 7) hx hb dX5_addTo_47 (by decide) ?_
    refine lv_aload_n hx hb dX5_addTo_49 rfl (lv_at hl 1 rfl) ?_
    refine lv_iload_n hx hb dX5_addTo_50 rfl (lv_at hl 2 rfl) ?_
    refine lv_bipush (v := 7) hx hb dX5_addTo_51 (by decide) ?_
    have hPc := hP.sub (ws' := [(h, .inr (6, [.ref g1, .ref g2, .int ka, .int ko, .ref g3, .ref g4])), (g1, .inl (E.2.1, 81, .inl u_3))]) [0, 1] rfl
    refine pc_i (va_runV (As := [.int p0, .int 7]) (rest := [.int 7, .int p0, .ref h]) ⟨hx, hb, hml, hown, hts⟩ (s_of l E h g1 g2 g3 g4 k ka ko u_3 p0 7 kk_5 (by omega)) (cwV 2 hts g_s_addTo_s_of_69 rfl rfl rfl (by decide +kernel) ⟨Nat.le_of_ble_eq_true rfl, Nat.le_of_ble_eq_true rfl⟩) ⟨pP.blind, va_recv hK hPc (ci := 6) (q0 := 0) rfl rfl, (pP.pre ⟨hK, hN⟩ hPc)⟩ rfl rfl hl.1 rfl (lv_room (Nat.le_of_ble_eq_true rfl)) dX5_addTo_53 ⟨Nat.le_of_ble_eq_true rfl, Nat.le_of_ble_eq_true rfl⟩) (fun r_9 hr_9 => ?_)
    refine lv_iload_n hx hb dX5_addTo_56 rfl (lv_at hl 3 rfl) ?_
    refine lv_iadd hx hb dX5_addTo_57 ?_
    refine lv_topi (fun z_10 ez_10 => ?_)
    have hPc := hP.sub (ws' := [(h, .inr (6, [.ref g1, .ref g2, .int ka, .int ko, .ref g3, .ref g4])), (g1, .inl (E.2.1, 81, .inl u_3))]) [0, 1] rfl
    have hDc := hD.sub (ws' := [(h, .inr (6, [.ref g1, .ref g2, .int ka, .int ko, .ref g3, .ref g4])), (g1, .inl (E.2.1, 81, .inl u_3))]) [0, 1] (by decide) rfl
    have hFc := va_free (wc := [(h, .inr (6, [.ref g1, .ref g2, .int ka, .int ko, .ref g3, .ref g4])), (g1, .inl (E.2.1, 81, .inl u_3))]) hD hS hA [0, 1] rfl
    refine va_callv (va_runV (As := [.int p0, .int 7, .int z_10]) (rest := []) ⟨hx, hb, hml, hown, hts⟩ (s_put l E H.size h g1 g2 g3 g4 k ka ko u_3 p0 7 z_10 kk_5 (by omega)) (cwV 3 hts g_s_addTo_s_put_52 rfl rfl rfl (by decide +kernel) ⟨Nat.le_of_ble_eq_true rfl, Nat.le_of_ble_eq_true rfl⟩) ⟨pW.blind, va_recv hK hPc (ci := 6) (q0 := 0) rfl rfl, (pW.pre ⟨hK, hN⟩ hPc hDc)⟩ rfl rfl hl.1 rfl (lv_room (Nat.le_of_ble_eq_true rfl)) dX5_addTo_58 ⟨Nat.le_of_ble_eq_true rfl, Nat.le_of_ble_eq_true rfl⟩) hS (fun q _ h => hFc q h) hFc (fun  u_11 tt H1 locs ht hvm hw hB hz1 hk1 hS => ?_)
    obtain ⟨hP1, hD1⟩ := hB
    rw [ht] at hP1
    obtain ⟨hP, hD⟩ := va_join (wr := []) (w1 := [(h, .inr (6, [.ref g1, .ref g2, .int ka, .int ko, .ref g3, .ref g4])), (g1, .inl (E.2.1, 81, .inl u_11))]) hP hD [0, 1] [] rfl rfl (by decide) (by decide) hk1 hFc hP1 hD1
    generalize H1 = H at hP hS ⊢
    have hP : va_P E.1 vwCl [(h, .inr (6, [.ref g1, .ref g2, .int ka, .int ko, .ref g3, .ref g4])), (g1, .inl (E.2.1, 81, .inl u_11))] H := hP
    have hD : va_D A [(h, .inr (6, [.ref g1, .ref g2, .int ka, .int ko, .ref g3, .ref g4])), (g1, .inl (E.2.1, 81, .inl u_11))] := hD
    have hsw_12 := hw
    have kk_13 := hsw_12
    refine lv_iconst (v := 0) hx hb dX5_addTo_61 (by decide) ?_
    refine lv_istore (lv' := [(4, .int 0), (3, .int r_7), (0, .ref h), (1, .int p0), (2, .int p1)]) hx hb dX5_addTo_62 hl (by decide) rfl (fun ls hl => ?_)
    refine lv_iconst (v := 0) hx hb dX5_addTo_64 (by decide) ?_
    refine lv_istore (lv' := [(5, .int 0), (4, .int 0), (3, .int r_7), (0, .ref h), (1, .int p0), (2, .int p1)]) hx hb dX5_addTo_65 hl (by decide) rfl (fun ls hl => ?_)
    refine lp_s_addTo_67 (h := h) (g1 := g1) (g2 := g2) (g3 := g3) (g4 := g4) (k := k) (ka := ka) (ko := ko) (f := f) (p0 := p0) (p1 := p1) l E hk hk8 hx hb hml hown hts hK hN r_7 hA ?_ ?_ (10) 0 0 u_11 H locs ls (by omega) kk_13 (by omega) (hP.sub [0, 1] rfl) (hD.sub [0, 1] (by decide) rfl) hS (lv_sub hl [3, 4, 5, 2, 1, 0] rfl)
    ·
      intro v4 i f1 H locs ls hi kf1_3 hP hD hS hl
      refine lv_aload_n hx hb dX5_addTo_131 rfl (lv_at hl 0 rfl) ?_
      have hPc := hP.sub (ws' := [(h, .inr (6, [.ref g1, .ref g2, .int ka, .int ko, .ref g3, .ref g4])), (g1, .inl (E.2.1, 81, .inl f1))]) [0, 1] rfl
      have hDc := hD.sub (ws' := [(h, .inr (6, [.ref g1, .ref g2, .int ka, .int ko, .ref g3, .ref g4])), (g1, .inl (E.2.1, 81, .inl f1))]) [0, 1] (by decide) rfl
      have hFc := va_free (wc := [(h, .inr (6, [.ref g1, .ref g2, .int ka, .int ko, .ref g3, .ref g4])), (g1, .inl (E.2.1, 81, .inl f1))]) hD hS hA [0, 1] rfl
      refine va_callv (va_runV (As := []) (rest := []) ⟨hx, hb, hml, hown, hts⟩ (s_endRound l E H.size h g1 g2 g3 g4 k ka ko f1 kf1_3 (by omega)) (cwV 0 hts g_s_addTo_s_endRound_185 rfl rfl rfl (by decide +kernel) ⟨Nat.le_of_ble_eq_true rfl, Nat.le_of_ble_eq_true rfl⟩) ⟨pW.blind, va_recv hK hPc (ci := 6) (q0 := 0) rfl rfl, (pW.pre ⟨hK, hN⟩ hPc hDc)⟩ rfl rfl hl.1 rfl (lv_room (Nat.le_of_ble_eq_true rfl)) dX5_addTo_132 ⟨Nat.le_of_ble_eq_true rfl, Nat.le_of_ble_eq_true rfl⟩) hS (fun q _ h => hFc q h) hFc (fun  u_30 tt H1 locs ht hvm hw hB hz1 hk1 hS => ?_)
      obtain ⟨hP1, hD1⟩ := hB
      rw [ht] at hP1
      obtain ⟨hP, hD⟩ := va_join (wr := []) (w1 := [(h, .inr (6, [.ref g1, .ref g2, .int ka, .int ko, .ref g3, .ref g4])), (g1, .inl (E.2.1, 81, .inl u_30))]) hP hD [0, 1] [] rfl rfl (by decide) (by decide) hk1 hFc hP1 hD1
      generalize H1 = H at hP hS ⊢
      have hP : va_P E.1 vwCl [(h, .inr (6, [.ref g1, .ref g2, .int ka, .int ko, .ref g3, .ref g4])), (g1, .inl (E.2.1, 81, .inl u_30))] H := hP
      have hD : va_D A [(h, .inr (6, [.ref g1, .ref g2, .int ka, .int ko, .ref g3, .ref g4])), (g1, .inl (E.2.1, 81, .inl u_30))] := hD
      have hsw_31 := hw
      have kk_32 := hsw_31
      refine lv_iload hx hb dX5_addTo_135 (lv_at hl 4 rfl) ?_
      refine lv_iconst (v := 2) hx hb dX5_addTo_137 (by decide) ?_
      refine lv_aload_n hx hb dX5_addTo_138 rfl (lv_at hl 0 rfl) ?_
      refine va_get (D := E.1) (ci := 6) (v := .ref g1) (C := RX5) (T := TX5) (N := 6) hx hb hts i_s_addTo_X5 hown hK hP 0 rfl rfl 0 (by decide) (hts (.fieldLink RX5 11 "HushWatch$State" "row" "[I") (List.mem_of_getElem? (i := 1) rfl)) (fun _ h9 => h9) rfl dX5_addTo_139 ?_
      refine lv_iconst (v := 3) hx hb dX5_addTo_142 (by decide) ?_
      refine va_iald hx hb hK hP 1 0 rfl rfl (vin rfl) dX5_addTo_143 ?_
      refine W.eq (g2 := F0 m 144 ls [.int (u_30 3), .int 2, .int v4]) rfl ?_
      refine W.eq (g2 := F0 m 144 ls [.int (nI k), .int 2, .int v4]) (by rw [kk_32]) ?_
      refine lv_imul hx hb dX5_addTo_144 ?_
      refine lv_topi (fun z_33 ez_33 => ?_)
      obtain rfl : z_33 = nI (2 * k) := ez_33.trans (nI_mul 2 _)
      refine lv_iadd hx hb dX5_addTo_145 ?_
      refine lv_topi (fun z_34 ez_34 => ?_)
      rw [hQ]
      have hP9 := hP.sub (ws' := [(h, .inr (6, [.ref g1, .ref g2, .int ka, .int ko, .ref g3, .ref g4])), (g1, .inl (E.2.1, 81, .inl u_30))]) [0, 1] rfl
      have hD9 := hD.sub (ws' := [(h, .inr (6, [.ref g1, .ref g2, .int ka, .int ko, .ref g3, .ref g4])), (g1, .inl (E.2.1, 81, .inl u_30))]) [0, 1] (by decide) rfl
      exact W.iret (v := z_34) hx hb hr (fun tt ht hW => ⟨⟨_, u_30, rfl, ⟨trivial, kk_32⟩, by rw [ht]; exact hP9, hD9⟩, hS.F ht⟩) hS.2.2 dX5_addTo_146
    ·
      intro v4 i f1 H locs ls hi kf1_3 hP hD hS hl
      refine lv_iload hx hb dX5_addTo_153 (lv_at hl 4 rfl) ?_
      rw [hQ]
      have hP9 := hP.sub (ws' := [(h, .inr (6, [.ref g1, .ref g2, .int ka, .int ko, .ref g3, .ref g4])), (g1, .inl (E.2.1, 81, .inl f1))]) [0, 1] rfl
      have hD9 := hD.sub (ws' := [(h, .inr (6, [.ref g1, .ref g2, .int ka, .int ko, .ref g3, .ref g4])), (g1, .inl (E.2.1, 81, .inl f1))]) [0, 1] (by decide) rfl
      exact W.iret (v := v4) hx hb hr (fun tt ht hW => ⟨⟨_, f1, rfl, ⟨trivial, kf1_3⟩, by rw [ht]; exact hP9, hD9⟩, hS.F ht⟩) hS.2.2 dX5_addTo_155
  ·
    obtain ⟨j_35, hj_35, ej_35⟩ : ∃ j : Nat, j ≤ 0 ∧ r_7 = nI j := nat_rng (by have t0 : (0 : Int32).toInt = 0 := (by decide); simp only [Int32.lt_iff_toInt_lt, Int32.le_iff_toInt_le, ge_iff_le, gt_iff_lt, ne_eq, ← Int32.toInt_inj, t0] at c_8 ⊢; omega)
    refine lv_aload_n hx hb dX5_addTo_32 rfl (lv_at hl 1 rfl) ?_
    refine va_get (D := E.1) (ci := 6) (v := .ref g1) (C := RX5) (T := TX5) (N := 6) hx hb hts i_s_addTo_X5 hown hK hP 0 rfl rfl 0 (by decide) (hts (.fieldLink RX5 11 "HushWatch$State" "row" "[I") (List.mem_of_getElem? (i := 1) rfl)) (fun _ h9 => h9) rfl dX5_addTo_33 ?_
    refine lv_bipush (v := 8) hx hb dX5_addTo_36 (by decide) ?_
    refine lv_dup2_11 hx hb dX5_addTo_38 rfl rfl ?_
    refine va_iald hx hb hK hP 1 0 rfl rfl (vin rfl) dX5_addTo_39 ?_
    refine W.eq (g2 := F0 m 40 ls [.int (u_3 8), .int 8, .ref g1]) rfl ?_
    refine lv_topi (fun z_36 ez_36 => ?_)
    refine lv_iload_n hx hb dX5_addTo_40 rfl (lv_at hl 3 rfl) ?_
    refine lv_iadd hx hb dX5_addTo_41 ?_
    refine lv_topi (fun z_37 ez_37 => ?_)
    refine va_iast hx hb hK hP hD hS 1 0 rfl rfl (vin rfl) dX5_addTo_42 (fun H locs hP hD hS => ?_)
    have hP : va_P E.1 vwCl [(h, .inr (6, [.ref g1, .ref g2, .int ka, .int ko, .ref g3, .ref g4])), (g1, .inl (E.2.1, 81, .inl (upd u_3 (8 : Int32).toNatClampNeg z_37)))] H := hP
    have hD : va_D A [(h, .inr (6, [.ref g1, .ref g2, .int ka, .int ko, .ref g3, .ref g4])), (g1, .inl (E.2.1, 81, .inl (upd u_3 (8 : Int32).toNatClampNeg z_37)))] := hD
    obtain ⟨f_38, hf_38⟩ : ∃ g : Nat → Int32, g = upd u_3 (8 : Int32).toNatClampNeg z_37 := ⟨_, rfl⟩
    rw [← hf_38] at hP hD
    have kf_38_3 : f_38 3 = nI k := by rw [hf_38]; exact (upd_ne (by decide)).trans kk_5
    refine lv_iconst (v := 1) hx hb dX5_addTo_43 (by decide) ?_
    rw [hQ]
    have hP9 := hP.sub (ws' := [(h, .inr (6, [.ref g1, .ref g2, .int ka, .int ko, .ref g3, .ref g4])), (g1, .inl (E.2.1, 81, .inl f_38))]) [0, 1] rfl
    have hD9 := hD.sub (ws' := [(h, .inr (6, [.ref g1, .ref g2, .int ka, .int ko, .ref g3, .ref g4])), (g1, .inl (E.2.1, 81, .inl f_38))]) [0, 1] (by decide) rfl
    exact W.iret (v := 1) hx hb hr (fun tt ht hW => ⟨⟨_, f_38, rfl, ⟨trivial, kf_38_3⟩, by rw [ht]; exact hP9, hD9⟩, hS.F ht⟩) hS.2.2 dX5_addTo_44
