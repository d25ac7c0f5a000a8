theorem dX5_quietSites_4 : decode cX5_quietSites 4 = .ok (.iload_n 2, 1) := by decide +kernel
theorem dX5_quietSites_5 : decode cX5_quietSites 5 = .ok (.aload_n 0, 1) := by decide +kernel
theorem dX5_quietSites_6 : decode cX5_quietSites 6 = .ok (.invokevirtual 45, 3) := by decide +kernel
theorem dX5_quietSites_9 : decode cX5_quietSites 9 = .ok (.if_icmp .ge 27, 3) := by decide +kernel
theorem dX5_quietSites_12 : decode cX5_quietSites 12 = .ok (.iload_n 1, 1) := by decide +kernel
theorem dX5_quietSites_13 : decode cX5_quietSites 13 = .ok (.aload_n 0, 1) := by decide +kernel
theorem dX5_quietSites_14 : decode cX5_quietSites 14 = .ok (.iload_n 2, 1) := by decide +kernel
theorem dX5_quietSites_15 : decode cX5_quietSites 15 = .ok (.invokevirtual 99, 3) := by decide +kernel
theorem dX5_quietSites_28 : decode cX5_quietSites 28 = .ok (.ior, 1) := by decide +kernel
theorem dX5_quietSites_29 : decode cX5_quietSites 29 = .ok (.istore_n 1, 1) := by decide +kernel
theorem dX5_quietSites_30 : decode cX5_quietSites 30 = .ok (.iinc 2 1, 3) := by decide +kernel
theorem dX5_quietSites_33 : decode cX5_quietSites 33 = .ok (.goto (-29), 3) := by decide +kernel
theorem dX5_quietSites_18 : decode cX5_quietSites 18 = .ok (.ifCond .eq 9, 3) := by decide +kernel
theorem dX5_quietSites_27 : decode cX5_quietSites 27 = .ok (.iconst 0, 1) := by decide +kernel
theorem dX5_quietSites_21 : decode cX5_quietSites 21 = .ok (.iconst 1, 1) := by decide +kernel
theorem dX5_quietSites_22 : decode cX5_quietSites 22 = .ok (.iload_n 2, 1) := by decide +kernel
theorem dX5_quietSites_23 : decode cX5_quietSites 23 = .ok (.ishl, 1) := by decide +kernel
theorem dX5_quietSites_24 : decode cX5_quietSites 24 = .ok (.goto 4, 3) := by decide +kernel
theorem dX5_quietSites_0 : decode cX5_quietSites 0 = .ok (.iconst 0, 1) := by decide +kernel
theorem dX5_quietSites_1 : decode cX5_quietSites 1 = .ok (.istore_n 1, 1) := by decide +kernel
theorem dX5_quietSites_2 : decode cX5_quietSites 2 = .ok (.iconst 0, 1) := by decide +kernel
theorem dX5_quietSites_3 : decode cX5_quietSites 3 = .ok (.istore_n 2, 1) := by decide +kernel
theorem dX5_quietSites_36 : decode cX5_quietSites 36 = .ok (.iload_n 1, 1) := by decide +kernel
theorem dX5_quietSites_37 : decode cX5_quietSites 37 = .ok (.ireturn, 1) := by decide +kernel
theorem dX5_slackSites_4 : decode cX5_slackSites 4 = .ok (.iload_n 2, 1) := by decide +kernel
theorem dX5_slackSites_5 : decode cX5_slackSites 5 = .ok (.aload_n 0, 1) := by decide +kernel
theorem dX5_slackSites_6 : decode cX5_slackSites 6 = .ok (.invokevirtual 45, 3) := by decide +kernel
theorem dX5_slackSites_9 : decode cX5_slackSites 9 = .ok (.if_icmp .ge 27, 3) := by decide +kernel
theorem dX5_slackSites_12 : decode cX5_slackSites 12 = .ok (.iload_n 1, 1) := by decide +kernel
theorem dX5_slackSites_13 : decode cX5_slackSites 13 = .ok (.aload_n 0, 1) := by decide +kernel
theorem dX5_slackSites_14 : decode cX5_slackSites 14 = .ok (.iload_n 2, 1) := by decide +kernel
theorem dX5_slackSites_15 : decode cX5_slackSites 15 = .ok (.invokevirtual 102, 3) := by decide +kernel
theorem dX5_slackSites_28 : decode cX5_slackSites 28 = .ok (.ior, 1) := by decide +kernel
theorem dX5_slackSites_29 : decode cX5_slackSites 29 = .ok (.istore_n 1, 1) := by decide +kernel
theorem dX5_slackSites_30 : decode cX5_slackSites 30 = .ok (.iinc 2 1, 3) := by decide +kernel
theorem dX5_slackSites_33 : decode cX5_slackSites 33 = .ok (.goto (-29), 3) := by decide +kernel
theorem dX5_slackSites_18 : decode cX5_slackSites 18 = .ok (.ifCond .eq 9, 3) := by decide +kernel
theorem dX5_slackSites_27 : decode cX5_slackSites 27 = .ok (.iconst 0, 1) := by decide +kernel
theorem dX5_slackSites_21 : decode cX5_slackSites 21 = .ok (.iconst 1, 1) := by decide +kernel
theorem dX5_slackSites_22 : decode cX5_slackSites 22 = .ok (.iload_n 2, 1) := by decide +kernel
theorem dX5_slackSites_23 : decode cX5_slackSites 23 = .ok (.ishl, 1) := by decide +kernel
theorem dX5_slackSites_24 : decode cX5_slackSites 24 = .ok (.goto 4, 3) := by decide +kernel
theorem dX5_slackSites_0 : decode cX5_slackSites 0 = .ok (.iconst 0, 1) := by decide +kernel
theorem dX5_slackSites_1 : decode cX5_slackSites 1 = .ok (.istore_n 1, 1) := by decide +kernel
theorem dX5_slackSites_2 : decode cX5_slackSites 2 = .ok (.iconst 0, 1) := by decide +kernel
theorem dX5_slackSites_3 : decode cX5_slackSites 3 = .ok (.istore_n 2, 1) := by decide +kernel
theorem dX5_slackSites_36 : decode cX5_slackSites 36 = .ok (.iload_n 1, 1) := by decide +kernel
theorem dX5_slackSites_37 : decode cX5_slackSites 37 = .ok (.ireturn, 1) := by decide +kernel
theorem dX5_unmovedSites_4 : decode cX5_unmovedSites 4 = .ok (.iload_n 2, 1) := by decide +kernel
theorem dX5_unmovedSites_5 : decode cX5_unmovedSites 5 = .ok (.aload_n 0, 1) := by decide +kernel
theorem dX5_unmovedSites_6 : decode cX5_unmovedSites 6 = .ok (.invokevirtual 45, 3) := by decide +kernel
theorem dX5_unmovedSites_9 : decode cX5_unmovedSites 9 = .ok (.if_icmp .ge 59, 3) := by decide +kernel
theorem dX5_unmovedSites_12 : decode cX5_unmovedSites 12 = .ok (.aload_n 0, 1) := by decide +kernel
theorem dX5_unmovedSites_13 : decode cX5_unmovedSites 13 = .ok (.iload_n 2, 1) := by decide +kernel
theorem dX5_unmovedSites_14 : decode cX5_unmovedSites 14 = .ok (.iconst 0, 1) := by decide +kernel
theorem dX5_unmovedSites_15 : decode cX5_unmovedSites 15 = .ok (.invokevirtual 69, 3) := by decide +kernel
theorem dX5_unmovedSites_18 : decode cX5_unmovedSites 18 = .ok (.aload_n 0, 1) := by decide +kernel
theorem dX5_unmovedSites_19 : decode cX5_unmovedSites 19 = .ok (.iload_n 2, 1) := by decide +kernel
theorem dX5_unmovedSites_20 : decode cX5_unmovedSites 20 = .ok (.iconst 2, 1) := by decide +kernel
theorem dX5_unmovedSites_21 : decode cX5_unmovedSites 21 = .ok (.invokevirtual 69, 3) := by decide +kernel
theorem dX5_unmovedSites_47 : decode cX5_unmovedSites 47 = .ok (.istore_n 3, 1) := by decide +kernel
theorem dX5_unmovedSites_48 : decode cX5_unmovedSites 48 = .ok (.iload_n 1, 1) := by decide +kernel
theorem dX5_unmovedSites_49 : decode cX5_unmovedSites 49 = .ok (.iload_n 3, 1) := by decide +kernel
theorem dX5_unmovedSites_60 : decode cX5_unmovedSites 60 = .ok (.ior, 1) := by decide +kernel
theorem dX5_unmovedSites_61 : decode cX5_unmovedSites 61 = .ok (.istore_n 1, 1) := by decide +kernel
theorem dX5_unmovedSites_62 : decode cX5_unmovedSites 62 = .ok (.iinc 2 1, 3) := by decide +kernel
theorem dX5_unmovedSites_65 : decode cX5_unmovedSites 65 = .ok (.goto (-61), 3) := by decide +kernel
theorem dX5_unmovedSites_50 : decode cX5_unmovedSites 50 = .ok (.ifCond .eq 9, 3) := by decide +kernel
theorem dX5_unmovedSites_59 : decode cX5_unmovedSites 59 = .ok (.iconst 0, 1) := by decide +kernel
theorem dX5_unmovedSites_53 : decode cX5_unmovedSites 53 = .ok (.iconst 1, 1) := by decide +kernel
theorem dX5_unmovedSites_54 : decode cX5_unmovedSites 54 = .ok (.iload_n 2, 1) := by decide +kernel
theorem dX5_unmovedSites_55 : decode cX5_unmovedSites 55 = .ok (.ishl, 1) := by decide +kernel
theorem dX5_unmovedSites_56 : decode cX5_unmovedSites 56 = .ok (.goto 4, 3) := by decide +kernel
theorem dX5_unmovedSites_24 : decode cX5_unmovedSites 24 = .ok (.if_icmp .ne 22, 3) := by decide +kernel
theorem dX5_unmovedSites_46 : decode cX5_unmovedSites 46 = .ok (.iconst 0, 1) := by decide +kernel
theorem dX5_unmovedSites_27 : decode cX5_unmovedSites 27 = .ok (.aload_n 0, 1) := by decide +kernel
theorem dX5_unmovedSites_28 : decode cX5_unmovedSites 28 = .ok (.iload_n 2, 1) := by decide +kernel
theorem dX5_unmovedSites_29 : decode cX5_unmovedSites 29 = .ok (.iconst 1, 1) := by decide +kernel
theorem dX5_unmovedSites_30 : decode cX5_unmovedSites 30 = .ok (.invokevirtual 69, 3) := by decide +kernel
theorem dX5_unmovedSites_33 : decode cX5_unmovedSites 33 = .ok (.aload_n 0, 1) := by decide +kernel
theorem dX5_unmovedSites_34 : decode cX5_unmovedSites 34 = .ok (.iload_n 2, 1) := by decide +kernel
theorem dX5_unmovedSites_35 : decode cX5_unmovedSites 35 = .ok (.iconst 3, 1) := by decide +kernel
theorem dX5_unmovedSites_36 : decode cX5_unmovedSites 36 = .ok (.invokevirtual 69, 3) := by decide +kernel
theorem dX5_unmovedSites_39 : decode cX5_unmovedSites 39 = .ok (.if_icmp .ne 7, 3) := by decide +kernel
theorem dX5_unmovedSites_42 : decode cX5_unmovedSites 42 = .ok (.iconst 1, 1) := by decide +kernel
theorem dX5_unmovedSites_43 : decode cX5_unmovedSites 43 = .ok (.goto 4, 3) := by decide +kernel
theorem dX5_unmovedSites_0 : decode cX5_unmovedSites 0 = .ok (.iconst 0, 1) := by decide +kernel
theorem dX5_unmovedSites_1 : decode cX5_unmovedSites 1 = .ok (.istore_n 1, 1) := by decide +kernel
theorem dX5_unmovedSites_2 : decode cX5_unmovedSites 2 = .ok (.iconst 0, 1) := by decide +kernel
theorem dX5_unmovedSites_3 : decode cX5_unmovedSites 3 = .ok (.istore_n 2, 1) := by decide +kernel
theorem dX5_unmovedSites_68 : decode cX5_unmovedSites 68 = .ok (.iload_n 1, 1) := by decide +kernel
theorem dX5_unmovedSites_69 : decode cX5_unmovedSites 69 = .ok (.ireturn, 1) := by decide +kernel
theorem dX5_isReached_0 : decode cX5_isReached 0 = .ok (.aload_n 0, 1) := by decide +kernel
theorem dX5_isReached_1 : decode cX5_isReached 1 = .ok (.getfield 11, 3) := by decide +kernel
theorem dX5_isReached_4 : decode cX5_isReached 4 = .ok (.bipush 8, 2) := by decide +kernel
theorem dX5_isReached_6 : decode cX5_isReached 6 = .ok (.iaload, 1) := by decide +kernel
theorem dX5_isReached_7 : decode cX5_isReached 7 = .ok (.aload_n 0, 1) := by decide +kernel
theorem dX5_isReached_8 : decode cX5_isReached 8 = .ok (.getfield 11, 3) := by decide +kernel
theorem dX5_isReached_11 : decode cX5_isReached 11 = .ok (.iconst 2, 1) := by decide +kernel
theorem dX5_isReached_12 : decode cX5_isReached 12 = .ok (.iaload, 1) := by decide +kernel
theorem dX5_isReached_21 : decode cX5_isReached 21 = .ok (.ireturn, 1) := by decide +kernel
theorem dX5_isReached_13 : decode cX5_isReached 13 = .ok (.if_icmp .lt 7, 3) := by decide +kernel
theorem dX5_isReached_20 : decode cX5_isReached 20 = .ok (.iconst 0, 1) := by decide +kernel
theorem dX5_isReached_16 : decode cX5_isReached 16 = .ok (.iconst 1, 1) := by decide +kernel
theorem dX5_isReached_17 : decode cX5_isReached 17 = .ok (.goto 4, 3) := by decide +kernel
theorem dX5_stepFrom_0 : decode cX5_stepFrom 0 = .ok (.iconst 2, 1) := by decide +kernel
theorem dX5_stepFrom_1 : decode cX5_stepFrom 1 = .ok (.aload_n 0, 1) := by decide +kernel
theorem dX5_stepFrom_2 : decode cX5_stepFrom 2 = .ok (.getfield 11, 3) := by decide +kernel
theorem dX5_stepFrom_5 : decode cX5_stepFrom 5 = .ok (.iconst 3, 1) := by decide +kernel
theorem dX5_stepFrom_6 : decode cX5_stepFrom 6 = .ok (.iaload, 1) := by decide +kernel
theorem dX5_stepFrom_7 : decode cX5_stepFrom 7 = .ok (.imul, 1) := by decide +kernel
theorem dX5_stepFrom_8 : decode cX5_stepFrom 8 = .ok (.istore_n 2, 1) := by decide +kernel
theorem dX5_stepFrom_9 : decode cX5_stepFrom 9 = .ok (.iload_n 2, 1) := by decide +kernel
theorem dX5_stepFrom_37 : decode cX5_stepFrom 37 = .ok (.ireturn, 1) := by decide +kernel
theorem dX5_stepFrom_10 : decode cX5_stepFrom 10 = .ok (.ifCond .le 13, 3) := by decide +kernel
theorem dX5_stepFrom_23 : decode cX5_stepFrom 23 = .ok (.iconst 0, 1) := by decide +kernel
theorem dX5_stepFrom_24 : decode cX5_stepFrom 24 = .ok (.goto 13, 3) := by decide +kernel
theorem dX5_stepFrom_13 : decode cX5_stepFrom 13 = .ok (.iload_n 1, 1) := by decide +kernel
theorem dX5_stepFrom_14 : decode cX5_stepFrom 14 = .ok (.aload_n 0, 1) := by decide +kernel
theorem dX5_stepFrom_15 : decode cX5_stepFrom 15 = .ok (.getfield 11, 3) := by decide +kernel
theorem dX5_stepFrom_18 : decode cX5_stepFrom 18 = .ok (.iconst 2, 1) := by decide +kernel
theorem dX5_stepFrom_19 : decode cX5_stepFrom 19 = .ok (.iaload, 1) := by decide +kernel
theorem dX5_stepFrom_20 : decode cX5_stepFrom 20 = .ok (.if_icmp .lt 7, 3) := by decide +kernel
theorem dX5_stepFrom_27 : decode cX5_stepFrom 27 = .ok (.aload_n 0, 1) := by decide +kernel
theorem dX5_stepFrom_28 : decode cX5_stepFrom 28 = .ok (.getfield 11, 3) := by decide +kernel
theorem dX5_stepFrom_31 : decode cX5_stepFrom 31 = .ok (.iconst 2, 1) := by decide +kernel
theorem dX5_stepFrom_32 : decode cX5_stepFrom 32 = .ok (.iaload, 1) := by decide +kernel
theorem dX5_stepFrom_33 : decode cX5_stepFrom 33 = .ok (.iload_n 1, 1) := by decide +kernel
theorem dX5_stepFrom_34 : decode cX5_stepFrom 34 = .ok (.isub, 1) := by decide +kernel
theorem dX5_stepFrom_35 : decode cX5_stepFrom 35 = .ok (.iload_n 2, 1) := by decide +kernel
theorem dX5_stepFrom_36 : decode cX5_stepFrom 36 = .ok (.idiv, 1) := by decide +kernel
theorem dX5_setRefusal_0 : decode cX5_setRefusal 0 = .ok (.iload_n 0, 1) := by decide +kernel
theorem dX5_setRefusal_1 : decode cX5_setRefusal 1 = .ok (.iload_n 1, 1) := by decide +kernel
theorem dX5_setRefusal_2 : decode cX5_setRefusal 2 = .ok (.if_icmp .lt 8, 3) := by decide +kernel
theorem dX5_setRefusal_10 : decode cX5_setRefusal 10 = .ok (.iconst 1, 1) := by decide +kernel
theorem dX5_setRefusal_11 : decode cX5_setRefusal 11 = .ok (.ireturn, 1) := by decide +kernel
theorem dX5_setRefusal_5 : decode cX5_setRefusal 5 = .ok (.iload_n 0, 1) := by decide +kernel
theorem dX5_setRefusal_6 : decode cX5_setRefusal 6 = .ok (.iload_n 2, 1) := by decide +kernel
theorem dX5_setRefusal_7 : decode cX5_setRefusal 7 = .ok (.if_icmp .le 5, 3) := by decide +kernel
theorem dX5_setRefusal_12 : decode cX5_setRefusal 12 = .ok (.iload_n 0, 1) := by decide +kernel
theorem dX5_setRefusal_13 : decode cX5_setRefusal 13 = .ok (.iload_n 3, 1) := by decide +kernel
theorem dX5_setRefusal_22 : decode cX5_setRefusal 22 = .ok (.ireturn, 1) := by decide +kernel
theorem dX5_setRefusal_14 : decode cX5_setRefusal 14 = .ok (.if_icmp .ne 7, 3) := by decide +kernel
theorem dX5_setRefusal_21 : decode cX5_setRefusal 21 = .ok (.iconst (-1), 1) := by decide +kernel
theorem dX5_setRefusal_17 : decode cX5_setRefusal 17 = .ok (.iconst 2, 1) := by decide +kernel
theorem dX5_setRefusal_18 : decode cX5_setRefusal 18 = .ok (.goto 4, 3) := by decide +kernel
theorem dX7_isMovable_0 : decode cX7_isMovable 0 = .ok (.iload_n 0, 1) := by decide +kernel
theorem dX7_isMovable_1 : decode cX7_isMovable 1 = .ok (.sipush (-9999), 3) := by decide +kernel
theorem dX7_isMovable_33 : decode cX7_isMovable 33 = .ok (.ireturn, 1) := by decide +kernel
theorem dX7_isMovable_4 : decode cX7_isMovable 4 = .ok (.if_icmp .lt 28, 3) := by decide +kernel
theorem dX7_isMovable_32 : decode cX7_isMovable 32 = .ok (.iconst 0, 1) := by decide +kernel
theorem dX7_isMovable_7 : decode cX7_isMovable 7 = .ok (.iload_n 0, 1) := by decide +kernel
theorem dX7_isMovable_8 : decode cX7_isMovable 8 = .ok (.sipush 9999, 3) := by decide +kernel
theorem dX7_isMovable_11 : decode cX7_isMovable 11 = .ok (.if_icmp .gt 21, 3) := by decide +kernel
theorem dX7_isMovable_14 : decode cX7_isMovable 14 = .ok (.iload_n 1, 1) := by decide +kernel
theorem dX7_isMovable_15 : decode cX7_isMovable 15 = .ok (.sipush (-9999), 3) := by decide +kernel
theorem dX7_isMovable_18 : decode cX7_isMovable 18 = .ok (.if_icmp .lt 14, 3) := by decide +kernel
theorem dX7_isMovable_21 : decode cX7_isMovable 21 = .ok (.iload_n 1, 1) := by decide +kernel
theorem dX7_isMovable_22 : decode cX7_isMovable 22 = .ok (.sipush 9999, 3) := by decide +kernel
theorem dX7_isMovable_25 : decode cX7_isMovable 25 = .ok (.if_icmp .gt 7, 3) := by decide +kernel
theorem dX7_isMovable_28 : decode cX7_isMovable 28 = .ok (.iconst 1, 1) := by decide +kernel
theorem dX7_isMovable_29 : decode cX7_isMovable 29 = .ok (.goto 4, 3) := by decide +kernel
theorem dX5_moveRefusal_0 : decode cX5_moveRefusal 0 = .ok (.aload_n 0, 1) := by decide +kernel
theorem dX5_moveRefusal_1 : decode cX5_moveRefusal 1 = .ok (.iload_n 1, 1) := by decide +kernel
theorem dX5_moveRefusal_2 : decode cX5_moveRefusal 2 = .ok (.invokevirtual 79, 3) := by decide +kernel
theorem dX5_moveRefusal_5 : decode cX5_moveRefusal 5 = .ok (.ifCond .ne 5, 3) := by decide +kernel
theorem dX5_moveRefusal_10 : decode cX5_moveRefusal 10 = .ok (.iload_n 2, 1) := by decide +kernel
theorem dX5_moveRefusal_11 : decode cX5_moveRefusal 11 = .ok (.iload_n 3, 1) := by decide +kernel
theorem dX5_moveRefusal_12 : decode cX5_moveRefusal 12 = .ok (.invokestatic 124, 3) := by decide +kernel
theorem dX5_moveRefusal_15 : decode cX5_moveRefusal 15 = .ok (.ifCond .eq 13, 3) := by decide +kernel
theorem dX5_moveRefusal_28 : decode cX5_moveRefusal 28 = .ok (.iconst 1, 1) := by decide +kernel
theorem dX5_moveRefusal_29 : decode cX5_moveRefusal 29 = .ok (.ireturn, 1) := by decide +kernel
theorem dX5_moveRefusal_18 : decode cX5_moveRefusal 18 = .ok (.aload_n 0, 1) := by decide +kernel
theorem dX5_moveRefusal_19 : decode cX5_moveRefusal 19 = .ok (.iload_n 1, 1) := by decide +kernel
theorem dX5_moveRefusal_20 : decode cX5_moveRefusal 20 = .ok (.iload_n 2, 1) := by decide +kernel
theorem dX5_moveRefusal_21 : decode cX5_moveRefusal 21 = .ok (.iload_n 3, 1) := by decide +kernel
theorem dX5_moveRefusal_22 : decode cX5_moveRefusal 22 = .ok (.invokevirtual 127, 3) := by decide +kernel
theorem dX5_moveRefusal_25 : decode cX5_moveRefusal 25 = .ok (.ifCond .ne 5, 3) := by decide +kernel
theorem dX5_moveRefusal_30 : decode cX5_moveRefusal 30 = .ok (.iload_n 2, 1) := by decide +kernel
theorem dX5_moveRefusal_51 : decode cX5_moveRefusal 51 = .ok (.ireturn, 1) := by decide +kernel
theorem dX5_moveRefusal_31 : decode cX5_moveRefusal 31 = .ok (.ifCond .ne 7, 3) := by decide +kernel
theorem dX5_moveRefusal_38 : decode cX5_moveRefusal 38 = .ok (.aload_n 0, 1) := by decide +kernel
theorem dX5_moveRefusal_39 : decode cX5_moveRefusal 39 = .ok (.iload_n 1, 1) := by decide +kernel
theorem dX5_moveRefusal_40 : decode cX5_moveRefusal 40 = .ok (.invokevirtual 131, 3) := by decide +kernel
theorem dX5_moveRefusal_43 : decode cX5_moveRefusal 43 = .ok (.ifCond .eq 7, 3) := by decide +kernel
theorem dX5_moveRefusal_50 : decode cX5_moveRefusal 50 = .ok (.iconst (-1), 1) := by decide +kernel
theorem dX5_moveRefusal_46 : decode cX5_moveRefusal 46 = .ok (.iconst 2, 1) := by decide +kernel
theorem dX5_moveRefusal_47 : decode cX5_moveRefusal 47 = .ok (.goto 4, 3) := by decide +kernel
theorem dX5_moveRefusal_34 : decode cX5_moveRefusal 34 = .ok (.iload_n 3, 1) := by decide +kernel
theorem dX5_moveRefusal_35 : decode cX5_moveRefusal 35 = .ok (.ifCond .eq 11, 3) := by decide +kernel
theorem dX5_moveRefusal_8 : decode cX5_moveRefusal 8 = .ok (.iconst 0, 1) := by decide +kernel
theorem dX5_moveRefusal_9 : decode cX5_moveRefusal 9 = .ok (.ireturn, 1) := by decide +kernel
theorem dX5_addRefusal_0 : decode cX5_addRefusal 0 = .ok (.aload_n 0, 1) := by decide +kernel
theorem dX5_addRefusal_1 : decode cX5_addRefusal 1 = .ok (.iload_n 1, 1) := by decide +kernel
theorem dX5_addRefusal_2 : decode cX5_addRefusal 2 = .ok (.invokevirtual 79, 3) := by decide +kernel
theorem dX5_addRefusal_5 : decode cX5_addRefusal 5 = .ok (.ifCond .ne 5, 3) := by decide +kernel
theorem dX5_addRefusal_10 : decode cX5_addRefusal 10 = .ok (.iload_n 2, 1) := by decide +kernel
theorem dX5_addRefusal_11 : decode cX5_addRefusal 11 = .ok (.iconst 1, 1) := by decide +kernel
theorem dX5_addRefusal_12 : decode cX5_addRefusal 12 = .ok (.if_icmp .lt 24, 3) := by decide +kernel
theorem dX5_addRefusal_36 : decode cX5_addRefusal 36 = .ok (.iconst 1, 1) := by decide +kernel
theorem dX5_addRefusal_37 : decode cX5_addRefusal 37 = .ok (.ireturn, 1) := by decide +kernel
theorem dX5_addRefusal_15 : decode cX5_addRefusal 15 = .ok (.iload_n 2, 1) := by decide +kernel
theorem dX5_addRefusal_16 : decode cX5_addRefusal 16 = .ok (.sipush 999, 3) := by decide +kernel
theorem dX5_addRefusal_19 : decode cX5_addRefusal 19 = .ok (.if_icmp .gt 17, 3) := by decide +kernel
theorem dX5_addRefusal_22 : decode cX5_addRefusal 22 = .ok (.aload_n 0, 1) := by decide +kernel
theorem dX5_addRefusal_23 : decode cX5_addRefusal 23 = .ok (.iload_n 1, 1) := by decide +kernel
theorem dX5_addRefusal_24 : decode cX5_addRefusal 24 = .ok (.bipush 6, 2) := by decide +kernel
theorem dX5_addRefusal_26 : decode cX5_addRefusal 26 = .ok (.invokevirtual 69, 3) := by decide +kernel
theorem dX5_addRefusal_29 : decode cX5_addRefusal 29 = .ok (.iload_n 2, 1) := by decide +kernel
theorem dX5_addRefusal_30 : decode cX5_addRefusal 30 = .ok (.iadd, 1) := by decide +kernel
theorem dX5_addRefusal_31 : decode cX5_addRefusal 31 = .ok (.ldc 98, 2) := by decide +kernel
theorem dX5_addRefusal_33 : decode cX5_addRefusal 33 = .ok (.if_icmp .le 5, 3) := by decide +kernel
theorem dX5_addRefusal_38 : decode cX5_addRefusal 38 = .ok (.aload_n 0, 1) := by decide +kernel
theorem dX5_addRefusal_39 : decode cX5_addRefusal 39 = .ok (.invokevirtual 134, 3) := by decide +kernel
theorem dX5_addRefusal_50 : decode cX5_addRefusal 50 = .ok (.ireturn, 1) := by decide +kernel
theorem dX5_addRefusal_42 : decode cX5_addRefusal 42 = .ok (.ifCond .eq 7, 3) := by decide +kernel
theorem dX5_addRefusal_49 : decode cX5_addRefusal 49 = .ok (.iconst (-1), 1) := by decide +kernel
theorem dX5_addRefusal_45 : decode cX5_addRefusal 45 = .ok (.iconst 2, 1) := by decide +kernel
theorem dX5_addRefusal_46 : decode cX5_addRefusal 46 = .ok (.goto 4, 3) := by decide +kernel
theorem dX5_addRefusal_8 : decode cX5_addRefusal 8 = .ok (.iconst 0, 1) := by decide +kernel
theorem dX5_addRefusal_9 : decode cX5_addRefusal 9 = .ok (.ireturn, 1) := by decide +kernel
theorem dX5_freezeRefusal_0 : decode cX5_freezeRefusal 0 = .ok (.aload_n 0, 1) := by decide +kernel
theorem dX5_freezeRefusal_1 : decode cX5_freezeRefusal 1 = .ok (.iload_n 1, 1) := by decide +kernel
theorem dX5_freezeRefusal_2 : decode cX5_freezeRefusal 2 = .ok (.invokevirtual 79, 3) := by decide +kernel
theorem dX5_freezeRefusal_5 : decode cX5_freezeRefusal 5 = .ok (.ifCond .ne 5, 3) := by decide +kernel
theorem dX5_freezeRefusal_10 : decode cX5_freezeRefusal 10 = .ok (.iconst 1, 1) := by decide +kernel
theorem dX5_freezeRefusal_11 : decode cX5_freezeRefusal 11 = .ok (.aload_n 0, 1) := by decide +kernel
theorem dX5_freezeRefusal_12 : decode cX5_freezeRefusal 12 = .ok (.getfield 11, 3) := by decide +kernel
theorem dX5_freezeRefusal_15 : decode cX5_freezeRefusal 15 = .ok (.iconst 3, 1) := by decide +kernel
theorem dX5_freezeRefusal_16 : decode cX5_freezeRefusal 16 = .ok (.iaload, 1) := by decide +kernel
theorem dX5_freezeRefusal_17 : decode cX5_freezeRefusal 17 = .ok (.ishl, 1) := by decide +kernel
theorem dX5_freezeRefusal_18 : decode cX5_freezeRefusal 18 = .ok (.iconst 1, 1) := by decide +kernel
theorem dX5_freezeRefusal_19 : decode cX5_freezeRefusal 19 = .ok (.isub, 1) := by decide +kernel
theorem dX5_freezeRefusal_20 : decode cX5_freezeRefusal 20 = .ok (.istore_n 2, 1) := by decide +kernel
theorem dX5_freezeRefusal_21 : decode cX5_freezeRefusal 21 = .ok (.aload_n 0, 1) := by decide +kernel
theorem dX5_freezeRefusal_22 : decode cX5_freezeRefusal 22 = .ok (.getfield 11, 3) := by decide +kernel
theorem dX5_freezeRefusal_25 : decode cX5_freezeRefusal 25 = .ok (.bipush 7, 2) := by decide +kernel
theorem dX5_freezeRefusal_27 : decode cX5_freezeRefusal 27 = .ok (.iaload, 1) := by decide +kernel
theorem dX5_freezeRefusal_28 : decode cX5_freezeRefusal 28 = .ok (.iconst 1, 1) := by decide +kernel
theorem dX5_freezeRefusal_29 : decode cX5_freezeRefusal 29 = .ok (.iload_n 1, 1) := by decide +kernel
theorem dX5_freezeRefusal_30 : decode cX5_freezeRefusal 30 = .ok (.ishl, 1) := by decide +kernel
theorem dX5_freezeRefusal_31 : decode cX5_freezeRefusal 31 = .ok (.ior, 1) := by decide +kernel
theorem dX5_freezeRefusal_32 : decode cX5_freezeRefusal 32 = .ok (.iload_n 2, 1) := by decide +kernel
theorem dX5_freezeRefusal_49 : decode cX5_freezeRefusal 49 = .ok (.ireturn, 1) := by decide +kernel
theorem dX5_freezeRefusal_33 : decode cX5_freezeRefusal 33 = .ok (.if_icmp .ne 15, 3) := by decide +kernel
theorem dX5_freezeRefusal_48 : decode cX5_freezeRefusal 48 = .ok (.iconst (-1), 1) := by decide +kernel
theorem dX5_freezeRefusal_36 : decode cX5_freezeRefusal 36 = .ok (.aload_n 0, 1) := by decide +kernel
theorem dX5_freezeRefusal_37 : decode cX5_freezeRefusal 37 = .ok (.iload_n 1, 1) := by decide +kernel
theorem dX5_freezeRefusal_38 : decode cX5_freezeRefusal 38 = .ok (.invokevirtual 131, 3) := by decide +kernel
theorem dX5_freezeRefusal_41 : decode cX5_freezeRefusal 41 = .ok (.ifCond .ne 7, 3) := by decide +kernel
theorem dX5_freezeRefusal_44 : decode cX5_freezeRefusal 44 = .ok (.iconst 2, 1) := by decide +kernel
theorem dX5_freezeRefusal_45 : decode cX5_freezeRefusal 45 = .ok (.goto 4, 3) := by decide +kernel
theorem dX5_freezeRefusal_8 : decode cX5_freezeRefusal 8 = .ok (.iconst 0, 1) := by decide +kernel
theorem dX5_freezeRefusal_9 : decode cX5_freezeRefusal 9 = .ok (.ireturn, 1) := by decide +kernel
theorem dX5_refusal_0 : decode cX5_refusal 0 = .ok (.aload_n 0, 1) := by decide +kernel
theorem dX5_refusal_1 : decode cX5_refusal 1 = .ok (.invokevirtual 105, 3) := by decide +kernel
theorem dX5_refusal_4 : decode cX5_refusal 4 = .ok (.ifCond .ne 5, 3) := by decide +kernel
theorem dX5_refusal_9 : decode cX5_refusal 9 = .ok (.iload_n 1, 1) := by decide +kernel
theorem dX5_refusal_10 : decode cX5_refusal 10 = .ok (.tableswitch 110 0 6 #[42, 110, 51, 66, 79, 86, 104], 42) := by decide +kernel
theorem dX5_refusal_52 : decode cX5_refusal 52 = .ok (.aload_n 0, 1) := by decide +kernel
theorem dX5_refusal_53 : decode cX5_refusal 53 = .ok (.iload_n 2, 1) := by decide +kernel
theorem dX5_refusal_54 : decode cX5_refusal 54 = .ok (.iload_n 3, 1) := by decide +kernel
theorem dX5_refusal_55 : decode cX5_refusal 55 = .ok (.iload 4, 2) := by decide +kernel
theorem dX5_refusal_57 : decode cX5_refusal 57 = .ok (.invokevirtual 108, 3) := by decide +kernel
theorem dX5_refusal_60 : decode cX5_refusal 60 = .ok (.ireturn, 1) := by decide +kernel
theorem dX5_refusal_120 : decode cX5_refusal 120 = .ok (.iconst (-1), 1) := by decide +kernel
theorem dX5_refusal_121 : decode cX5_refusal 121 = .ok (.ireturn, 1) := by decide +kernel
theorem dX5_refusal_61 : decode cX5_refusal 61 = .ok (.iload_n 2, 1) := by decide +kernel
theorem dX5_refusal_62 : decode cX5_refusal 62 = .ok (.ldc 112, 2) := by decide +kernel
theorem dX5_refusal_64 : decode cX5_refusal 64 = .ok (.ldc 113, 2) := by decide +kernel
theorem dX5_refusal_66 : decode cX5_refusal 66 = .ok (.aload_n 0, 1) := by decide +kernel
theorem dX5_refusal_67 : decode cX5_refusal 67 = .ok (.getfield 11, 3) := by decide +kernel
theorem dX5_refusal_70 : decode cX5_refusal 70 = .ok (.iconst 1, 1) := by decide +kernel
theorem dX5_refusal_71 : decode cX5_refusal 71 = .ok (.iaload, 1) := by decide +kernel
theorem dX5_refusal_72 : decode cX5_refusal 72 = .ok (.invokestatic 114, 3) := by decide +kernel
theorem dX5_refusal_75 : decode cX5_refusal 75 = .ok (.ireturn, 1) := by decide +kernel
theorem dX5_refusal_76 : decode cX5_refusal 76 = .ok (.iload_n 2, 1) := by decide +kernel
theorem dX5_refusal_77 : decode cX5_refusal 77 = .ok (.iconst 0, 1) := by decide +kernel
theorem dX5_refusal_78 : decode cX5_refusal 78 = .ok (.iconst 3, 1) := by decide +kernel
theorem dX5_refusal_79 : decode cX5_refusal 79 = .ok (.aload_n 0, 1) := by decide +kernel
theorem dX5_refusal_80 : decode cX5_refusal 80 = .ok (.getfield 11, 3) := by decide +kernel
theorem dX5_refusal_83 : decode cX5_refusal 83 = .ok (.iconst 0, 1) := by decide +kernel
theorem dX5_refusal_84 : decode cX5_refusal 84 = .ok (.iaload, 1) := by decide +kernel
theorem dX5_refusal_85 : decode cX5_refusal 85 = .ok (.invokestatic 114, 3) := by decide +kernel
theorem dX5_refusal_88 : decode cX5_refusal 88 = .ok (.ireturn, 1) := by decide +kernel
theorem dX5_refusal_89 : decode cX5_refusal 89 = .ok (.aload_n 0, 1) := by decide +kernel
theorem dX5_refusal_90 : decode cX5_refusal 90 = .ok (.iload_n 2, 1) := by decide +kernel
theorem dX5_refusal_91 : decode cX5_refusal 91 = .ok (.iload_n 3, 1) := by decide +kernel
theorem dX5_refusal_92 : decode cX5_refusal 92 = .ok (.invokevirtual 118, 3) := by decide +kernel
theorem dX5_refusal_95 : decode cX5_refusal 95 = .ok (.ireturn, 1) := by decide +kernel
theorem dX5_refusal_96 : decode cX5_refusal 96 = .ok (.iload_n 2, 1) := by decide +kernel
theorem dX5_refusal_97 : decode cX5_refusal 97 = .ok (.iconst 1, 1) := by decide +kernel
theorem dX5_refusal_113 : decode cX5_refusal 113 = .ok (.ireturn, 1) := by decide +kernel
theorem dX5_refusal_98 : decode cX5_refusal 98 = .ok (.if_icmp .lt 10, 3) := by decide +kernel
theorem dX5_refusal_108 : decode cX5_refusal 108 = .ok (.iconst 1, 1) := by decide +kernel
theorem dX5_refusal_109 : decode cX5_refusal 109 = .ok (.goto 4, 3) := by decide +kernel
theorem dX5_refusal_101 : decode cX5_refusal 101 = .ok (.iload_n 2, 1) := by decide +kernel
theorem dX5_refusal_102 : decode cX5_refusal 102 = .ok (.sipush 9999, 3) := by decide +kernel
theorem dX5_refusal_105 : decode cX5_refusal 105 = .ok (.if_icmp .le 7, 3) := by decide +kernel
theorem dX5_refusal_112 : decode cX5_refusal 112 = .ok (.iconst (-1), 1) := by decide +kernel
theorem dX5_refusal_114 : decode cX5_refusal 114 = .ok (.aload_n 0, 1) := by decide +kernel
theorem dX5_refusal_115 : decode cX5_refusal 115 = .ok (.iload_n 2, 1) := by decide +kernel
theorem dX5_refusal_116 : decode cX5_refusal 116 = .ok (.invokevirtual 121, 3) := by decide +kernel
theorem dX5_refusal_119 : decode cX5_refusal 119 = .ok (.ireturn, 1) := by decide +kernel
theorem dX5_refusal_7 : decode cX5_refusal 7 = .ok (.iconst 0, 1) := by decide +kernel
theorem dX5_refusal_8 : decode cX5_refusal 8 = .ok (.ireturn, 1) := by decide +kernel
def v_s_quietSites : List Cond := .code yX5_quietSites cX5_quietSites 3 (some .int) :: ([.methodLink RX5 45 yX5_sites, .instanceMethod yX5_sites, .selects RX5 yX5_sites yX5_sites, .initialized RX5, .methodLink RX5 99 yX5_isQuiet, .instanceMethod yX5_isQuiet, .selects RX5 yX5_isQuiet yX5_isQuiet] ++ (v_s_sites ++ (v_s_isQuiet ++ ([]))))
theorem gw_s_quietSites : v_s_quietSites.all goodWord = true := by decide +kernel
theorem g_s_quietSites_s_sites_45 : GoodIn v_s_quietSites (wsV RX5 45 RX5 yX5_sites v_s_sites) := goodIn_app (goodIn_of _ (by decide +kernel)) (goodIn_sub (fun _ h => List.mem_cons_of_mem _ (List.mem_append_right _ (List.mem_append_left _ h))) gw_s_sites)
theorem g_s_quietSites_s_isQuiet_99 : GoodIn v_s_quietSites (wsV RX5 99 RX5 yX5_isQuiet v_s_isQuiet) := goodIn_app (goodIn_of _ (by decide +kernel)) (goodIn_sub (fun _ h => List.mem_cons_of_mem _ (List.mem_append_right _ (List.mem_append_right _ (List.mem_append_left _ h)))) gw_s_isQuiet)
set_option maxHeartbeats 4000000 in
set_option maxRecDepth 100000 in
theorem lp_s_quietSites_4 {p : Program} (l : Launch) {e : Env} {s : State} {m : MethodId} {below : List Frame} {meth : Method} {c : Code} {Q : State → Prop} (E : EE) {h g1 g2 g3 g4 k : Nat} {ka ko : Int32} {f : Nat → Int32} (hk : f 3 = nI k) (hk8 : k ≤ 8) (hx : p.tables.exec = Jvm.exec) (hb : c.code = cX5_quietSites) (hml : c.maxLocals = 3) (hown : s.vm.findClass RX5 = some m.cls) (hts : ∀ w ∈ v_s_quietSites, w.before #[Value.ref h] s = true) (hK : va_K E.1 vwCl (TY E) s) (hN : NX s) (hP : va_P E.1 vwCl [(h, .inr (6, [.ref g1, .ref g2, .int ka, .int ko, .ref g3, .ref g4])), (g1, .inl (E.2.1, 81, .inl f))] s.heap) (KX36 : ∀ (v1 : Int32), ∀ (i : Nat), ∀ (ls : Array Slot), i ≤ 8 → lv_has ls 3 [(0, .ref h), (1, .int v1), (2, .int (nI i))] → W p l e ({ frames := 3, cells := 0, slots := 0, locals := 71 } : Room) s m #[Value.ref h] below meth c s.heap [] 0 0 Q (F0 m 36 ls [])) : ∀ fuel9 : Nat, ∀ (v1 : Int32), ∀ (i : Nat), ∀ (ls : Array Slot), i ≤ 8 → (9 - i) < fuel9 → lv_has ls 3 [(0, .ref h), (1, .int v1), (2, .int (nI i))] → W p l e ({ frames := 3, cells := 0, slots := 0, locals := 71 } : Room) s m #[Value.ref h] below meth c s.heap [] 0 0 Q (F0 m 4 ls []) := by
  intro fuel9
  induction fuel9 with
  | zero =>
    intro v1 i ls hi hms hl
    omega
  | succ fuel9 ih =>
    intro v1 i ls hi hms hl
    refine lv_iload_n hx hb dX5_quietSites_4 rfl (lv_at hl 2 rfl) ?_
    refine lv_aload_n hx hb dX5_quietSites_5 rfl (lv_at hl 0 rfl) ?_
    have hPc := hP.sub (ws' := [(h, .inr (6, [.ref g1, .ref g2, .int ka, .int ko, .ref g3, .ref g4])), (g1, .inl (E.2.1, 81, .inl f))]) [0, 1] rfl
    refine pc_i (va_runV (As := []) (rest := [.int (nI i)]) ⟨hx, hb, hml, hown, hts⟩ (s_sites l E h g1 g2 g3 g4 k ka ko f hk (by omega)) (cwV 0 hts g_s_quietSites_s_sites_45 rfl rfl rfl (by decide +kernel) ⟨Nat.le_of_ble_eq_true rfl, Nat.le_of_ble_eq_true rfl⟩) ⟨pP.blind, va_recv hK hPc (ci := 6) (q0 := 0) rfl rfl, (pP.pre ⟨hK, hN⟩ hPc)⟩ rfl rfl hl.1 rfl (lv_room (Nat.le_of_ble_eq_true rfl)) dX5_quietSites_6 ⟨Nat.le_of_ble_eq_true rfl, Nat.le_of_ble_eq_true rfl⟩) (fun r_1 hr_1 => ?_)
    obtain rfl : r_1 = nI k := hr_1
    refine lv_icmp_ge (tgt := 36) hx hb dX5_quietSites_9 (by decide) (fun c_2 => ?_) (fun c_2 => ?_)
    ·
      have d_12 : k ≤ i := nc_ge (a := i) (b := k) (by omega) (by omega) c_2
      exact KX36 v1 i ls (by omega) (lv_sub hl [0, 1, 2] rfl)
    ·
      have d_13 : ¬ (k ≤ i) := nc_ge_n (a := i) (b := k) (by omega) (by omega) c_2
      refine lv_iload_n hx hb dX5_quietSites_12 rfl (lv_at hl 1 rfl) ?_
      refine lv_aload_n hx hb dX5_quietSites_13 rfl (lv_at hl 0 rfl) ?_
      refine lv_iload_n hx hb dX5_quietSites_14 rfl (lv_at hl 2 rfl) ?_
      have hPc := hP.sub (ws' := [(h, .inr (6, [.ref g1, .ref g2, .int ka, .int ko, .ref g3, .ref g4])), (g1, .inl (E.2.1, 81, .inl f))]) [0, 1] rfl
      refine pc_i (va_runV (As := [.int (nI i)]) (rest := [.int v1]) ⟨hx, hb, hml, hown, hts⟩ (s_isQuiet l E h g1 g2 g3 g4 k ka ko f (nI i) hk (by omega)) (cwV 1 hts g_s_quietSites_s_isQuiet_99 rfl rfl rfl (by decide +kernel) ⟨Nat.le_of_ble_eq_true rfl, Nat.le_of_ble_eq_true rfl⟩) ⟨pP.blind, va_recv hK hPc (ci := 6) (q0 := 0) rfl rfl, (pP.pre ⟨hK, hN⟩ hPc)⟩ rfl rfl hl.1 rfl (lv_room (Nat.le_of_ble_eq_true rfl)) dX5_quietSites_15 ⟨Nat.le_of_ble_eq_true rfl, Nat.le_of_ble_eq_true rfl⟩) (fun r_14 hr_14 => ?_)
      have K_19 : ∀ (y_18 : Int32), ∀ (ls : Array Slot), lv_has ls 3 [(0, .ref h), (1, .int v1), (2, .int (nI i))] → W p l e ({ frames := 3, cells := 0, slots := 0, locals := 71 } : Room) s m #[Value.ref h] below meth c s.heap [] 0 0 Q (F0 m 28 ls [.int y_18, .int v1]) := by
        intro y_18 ls hl
        refine lv_ior hx hb dX5_quietSites_28 ?_
        refine lv_topi (fun z_20 ez_20 => ?_)
        refine lv_istore_n (lv' := [(1, .int z_20), (0, .ref h), (2, .int (nI i))]) hx hb dX5_quietSites_29 rfl hl (by decide) rfl (fun ls hl => ?_)
        refine lv_iinc (v := nI (i + 1)) (lv' := [(2, .int (nI (i + 1))), (1, .int z_20), (0, .ref h)]) hx hb dX5_quietSites_30 hl (k := 2) rfl (show nI (i) + 1 = nI (i + 1) from nI_add _ 1) (by decide) rfl (fun ls hl => ?_)
        refine lv_goto (tgt := 4) hx hb dX5_quietSites_33 (by decide) ?_
        exact ih z_20 (i + 1) ls (by omega) (by omega) (lv_sub hl [2, 1, 0] rfl)
      refine lv_if_eq (tgt := 27) hx hb dX5_quietSites_18 (by decide) (fun c_15 => ?_) (fun c_15 => ?_)
      ·
        obtain ⟨j_21, hj_21, ej_21⟩ : ∃ j : Nat, j ≤ 0 ∧ r_14 = nI j := nat_rng (by have t0 : (0 : Int32).toInt = 0 := (by decide); simp only [Int32.lt_iff_toInt_lt, Int32.le_iff_toInt_le, ge_iff_le, gt_iff_lt, ne_eq, ← Int32.toInt_inj, t0] at c_15 ⊢; omega)
        refine lv_iconst (v := 0) hx hb dX5_quietSites_27 (by decide) ?_
        exact K_19 0 ls  (lv_sub hl [0, 1, 2] rfl)
      ·
        refine lv_iconst (v := 1) hx hb dX5_quietSites_21 (by decide) ?_
        refine lv_iload_n hx hb dX5_quietSites_22 rfl (lv_at hl 2 rfl) ?_
        refine lv_ishl hx hb dX5_quietSites_23 ?_
        refine lv_topi (fun z_22 ez_22 => ?_)
        refine lv_goto (tgt := 28) hx hb dX5_quietSites_24 (by decide) ?_
        exact K_19 z_22 ls  (lv_sub hl [0, 1, 2] rfl)

set_option maxHeartbeats 4000000 in
set_option maxRecDepth 100000 in
theorem s_quietSites (l : Launch) (E : EE) (h g1 g2 g3 g4 k : Nat) (ka ko : Int32) (f : Nat → Int32) (hk : f 3 = nI k) (hk8 : k ≤ 8) : Met l yX5_quietSites v_s_quietSites ({ frames := 3, cells := 0, slots := 0, locals := 71 }) (va_Pc [.ref h] (pP E [(h, .inr (6, [.ref g1, .ref g2, .int ka, .int ko, .ref g3, .ref g4])), (g1, .inl (E.2.1, 81, .inl f))])) (vp_Si (fun r : Int32 => True)) 0 0 (fun _ => False) := by
  refine Met.ofW (cc := cX5_quietSites) (maxL := 3) (ret := (some .int)) (by decide) rfl ?_
  intro p e s m args below meth c s₁ B hml hv
  obtain ⟨rfl, ⟨hK, hN⟩, hP⟩ := hv
  have hx := B.exec
  have hb := B.bytes
  have hr := B.returns
  have hts := atoms_spec (ws := v_s_quietSites) B.pre
  have hown : s.vm.findClass RX5 = some m.cls := findClass_of_methodNamed B.named
  have hlocks := B.notSynchronized
  have hP : va_P E.1 vwCl [(h, .inr (6, [.ref g1, .ref g2, .int ka, .int ko, .ref g3, .ref g4])), (g1, .inl (E.2.1, 81, .inl f))] s.heap := hP
  have hl := lv_entry ([.ref h]) (n := 3) (Nat.le_of_ble_eq_true rfl)
  rw [lg_entry_eq]
  generalize (lg_sl ([.ref h]) ++ List.replicate (3 - (lg_sl ([.ref h])).length) Slot.unset).toArray = ls at hl ⊢
  have hl : lv_has ls 3 [(0, .ref h)] := hl
  obtain ⟨Q, hQ⟩ : ∃ Q : State → Prop, Q = MQ below (vp_Si (fun r : Int32 => True)) #[Value.ref h] s 0 0 (fun _ => False) := ⟨_, rfl⟩
  rw [← hQ]
  change W p l e ({ frames := 3, cells := 0, slots := 0, locals := 71 } : Room) s m #[Value.ref h] below meth c s.heap [] 0 0 Q (F0 m 0 ls [])
  refine lv_iconst (v := 0) hx hb dX5_quietSites_0 (by decide) ?_
  refine lv_istore_n (lv' := [(1, .int 0), (0, .ref h)]) hx hb dX5_quietSites_1 rfl hl (by decide) rfl (fun ls hl => ?_)
  refine lv_iconst (v := 0) hx hb dX5_quietSites_2 (by decide) ?_
  refine lv_istore_n (lv' := [(2, .int 0), (1, .int 0), (0, .ref h)]) hx hb dX5_quietSites_3 rfl hl (by decide) rfl (fun ls hl => ?_)
  refine lp_s_quietSites_4 (h := h) (g1 := g1) (g2 := g2) (g3 := g3) (g4 := g4) (k := k) (ka := ka) (ko := ko) (f := f) l E hk hk8 hx hb hml hown hts hK hN hP ?_ (10) 0 0 ls (by omega) (by omega) (lv_sub hl [2, 1, 0] rfl)
  ·
    intro v1 i ls hi hl
    refine lv_iload_n hx hb dX5_quietSites_36 rfl (lv_at hl 1 rfl) ?_
    rw [hQ]
    exact W.iret (v := v1) hx hb hr (fun tt ht hW => ⟨_, rfl, trivial, ht⟩) (fun _ h => by cases h) dX5_quietSites_37

def v_s_slackSites : List Cond := .code yX5_slackSites cX5_slackSites 3 (some .int) :: ([.methodLink RX5 45 yX5_sites, .instanceMethod yX5_sites, .selects RX5 yX5_sites yX5_sites, .initialized RX5, .methodLink RX5 102 yX5_slackLength, .instanceMethod yX5_slackLength, .selects RX5 yX5_slackLength yX5_slackLength] ++ (v_s_sites ++ (v_s_slackLength ++ ([]))))
theorem gw_s_slackSites : v_s_slackSites.all goodWord = true := by decide +kernel
theorem g_s_slackSites_s_sites_45 : GoodIn v_s_slackSites (wsV RX5 45 RX5 yX5_sites v_s_sites) := goodIn_app (goodIn_of _ (by decide +kernel)) (goodIn_sub (fun _ h => List.mem_cons_of_mem _ (List.mem_append_right _ (List.mem_append_left _ h))) gw_s_sites)
theorem g_s_slackSites_s_slackLength_102 : GoodIn v_s_slackSites (wsV RX5 102 RX5 yX5_slackLength v_s_slackLength) := goodIn_app (goodIn_of _ (by decide +kernel)) (goodIn_sub (fun _ h => List.mem_cons_of_mem _ (List.mem_append_right _ (List.mem_append_right _ (List.mem_append_left _ h)))) gw_s_slackLength)
set_option maxHeartbeats 4000000 in
set_option maxRecDepth 100000 in
theorem lp_s_slackSites_4 {p : Program} (l : Launch) {e : Env} {s : State} {m : MethodId} {below : List Frame} {meth : Method} {c : Code} {Q : State → Prop} (E : EE) {h g1 g2 g3 g4 k : Nat} {ka ko : Int32} {f : Nat → Int32} (hk : f 3 = nI k) (hk8 : k ≤ 8) (hx : p.tables.exec = Jvm.exec) (hb : c.code = cX5_slackSites) (hml : c.maxLocals = 3) (hown : s.vm.findClass RX5 = some m.cls) (hts : ∀ w ∈ v_s_slackSites, w.before #[Value.ref h] s = true) (hK : va_K E.1 vwCl (TY E) s) (hN : NX s) (hP : va_P E.1 vwCl [(h, .inr (6, [.ref g1, .ref g2, .int ka, .int ko, .ref g3, .ref g4])), (g1, .inl (E.2.1, 81, .inl f))] s.heap) (KX36 : ∀ (v1 : Int32), ∀ (i : Nat), ∀ (ls : Array Slot), i ≤ 8 → lv_has ls 3 [(0, .ref h), (1, .int v1), (2, .int (nI i))] → W p l e ({ frames := 2, cells := 0, slots := 0, locals := 43 } : Room) s m #[Value.ref h] below meth c s.heap [] 0 0 Q (F0 m 36 ls [])) : ∀ fuel9 : Nat, ∀ (v1 : Int32), ∀ (i : Nat), ∀ (ls : Array Slot), i ≤ 8 → (9 - i) < fuel9 → lv_has ls 3 [(0, .ref h), (1, .int v1), (2, .int (nI i))] → W p l e ({ frames := 2, cells := 0, slots := 0, locals := 43 } : Room) s m #[Value.ref h] below meth c s.heap [] 0 0 Q (F0 m 4 ls []) := by
  intro fuel9
  induction fuel9 with
  | zero =>
    intro v1 i ls hi hms hl
    omega
  | succ fuel9 ih =>
    intro v1 i ls hi hms hl
    refine lv_iload_n hx hb dX5_slackSites_4 rfl (lv_at hl 2 rfl) ?_
    refine lv_aload_n hx hb dX5_slackSites_5 rfl (lv_at hl 0 rfl) ?_
    have hPc := hP.sub (ws' := [(h, .inr (6, [.ref g1, .ref g2, .int ka, .int ko, .ref g3, .ref g4])), (g1, .inl (E.2.1, 81, .inl f))]) [0, 1] rfl
    refine pc_i (va_runV (As := []) (rest := [.int (nI i)]) ⟨hx, hb, hml, hown, hts⟩ (s_sites l E h g1 g2 g3 g4 k ka ko f hk (by omega)) (cwV 0 hts g_s_slackSites_s_sites_45 rfl rfl rfl (by decide +kernel) ⟨Nat.le_of_ble_eq_true rfl, Nat.le_of_ble_eq_true rfl⟩) ⟨pP.blind, va_recv hK hPc (ci := 6) (q0 := 0) rfl rfl, (pP.pre ⟨hK, hN⟩ hPc)⟩ rfl rfl hl.1 rfl (lv_room (Nat.le_of_ble_eq_true rfl)) dX5_slackSites_6 ⟨Nat.le_of_ble_eq_true rfl, Nat.le_of_ble_eq_true rfl⟩) (fun r_1 hr_1 => ?_)
    obtain rfl : r_1 = nI k := hr_1
    refine lv_icmp_ge (tgt := 36) hx hb dX5_slackSites_9 (by decide) (fun c_2 => ?_) (fun c_2 => ?_)
    ·
      have d_12 : k ≤ i := nc_ge (a := i) (b := k) (by omega) (by omega) c_2
      exact KX36 v1 i ls (by omega) (lv_sub hl [0, 1, 2] rfl)
    ·
      have d_13 : ¬ (k ≤ i) := nc_ge_n (a := i) (b := k) (by omega) (by omega) c_2
      refine lv_iload_n hx hb dX5_slackSites_12 rfl (lv_at hl 1 rfl) ?_
      refine lv_aload_n hx hb dX5_slackSites_13 rfl (lv_at hl 0 rfl) ?_
      refine lv_iload_n hx hb dX5_slackSites_14 rfl (lv_at hl 2 rfl) ?_
      have hPc := hP.sub (ws' := [(h, .inr (6, [.ref g1, .ref g2, .int ka, .int ko, .ref g3, .ref g4])), (g1, .inl (E.2.1, 81, .inl f))]) [0, 1] rfl
      refine pc_i (va_runV (As := [.int (nI i)]) (rest := [.int v1]) ⟨hx, hb, hml, hown, hts⟩ (s_slackLength l E h g1 g2 g3 g4 k ka ko f (nI i) hk (by omega)) (cwV 1 hts g_s_slackSites_s_slackLength_102 rfl rfl rfl (by decide +kernel) ⟨Nat.le_of_ble_eq_true rfl, Nat.le_of_ble_eq_true rfl⟩) ⟨pP.blind, va_recv hK hPc (ci := 6) (q0 := 0) rfl rfl, (pP.pre ⟨hK, hN⟩ hPc)⟩ rfl rfl hl.1 rfl (lv_room (Nat.le_of_ble_eq_true rfl)) dX5_slackSites_15 ⟨Nat.le_of_ble_eq_true rfl, Nat.le_of_ble_eq_true rfl⟩) (fun r_14 hr_14 => ?_)
      have K_19 : ∀ (y_18 : Int32), ∀ (ls : Array Slot), lv_has ls 3 [(0, .ref h), (1, .int v1), (2, .int (nI i))] → W p l e ({ frames := 2, cells := 0, slots := 0, locals := 43 } : Room) s m #[Value.ref h] below meth c s.heap [] 0 0 Q (F0 m 28 ls [.int y_18, .int v1]) := by
        intro y_18 ls hl
        refine lv_ior hx hb dX5_slackSites_28 ?_
        refine lv_topi (fun z_20 ez_20 => ?_)
        refine lv_istore_n (lv' := [(1, .int z_20), (0, .ref h), (2, .int (nI i))]) hx hb dX5_slackSites_29 rfl hl (by decide) rfl (fun ls hl => ?_)
        refine lv_iinc (v := nI (i + 1)) (lv' := [(2, .int (nI (i + 1))), (1, .int z_20), (0, .ref h)]) hx hb dX5_slackSites_30 hl (k := 2) rfl (show nI (i) + 1 = nI (i + 1) from nI_add _ 1) (by decide) rfl (fun ls hl => ?_)
        refine lv_goto (tgt := 4) hx hb dX5_slackSites_33 (by decide) ?_
        exact ih z_20 (i + 1) ls (by omega) (by omega) (lv_sub hl [2, 1, 0] rfl)
      refine lv_if_eq (tgt := 27) hx hb dX5_slackSites_18 (by decide) (fun c_15 => ?_) (fun c_15 => ?_)
      ·
        obtain ⟨j_21, hj_21, ej_21⟩ : ∃ j : Nat, j ≤ 0 ∧ r_14 = nI j := nat_rng (by have t0 : (0 : Int32).toInt = 0 := (by decide); simp only [Int32.lt_iff_toInt_lt, Int32.le_iff_toInt_le, ge_iff_le, gt_iff_lt, ne_eq, ← Int32.toInt_inj, t0] at c_15 ⊢; omega)
        refine lv_iconst (v := 0) hx hb dX5_slackSites_27 (by decide) ?_
        exact K_19 0 ls  (lv_sub hl [0, 1, 2] rfl)
      ·
        refine lv_iconst (v := 1) hx hb dX5_slackSites_21 (by decide) ?_
        refine lv_iload_n hx hb dX5_slackSites_22 rfl (lv_at hl 2 rfl) ?_
        refine lv_ishl hx hb dX5_slackSites_23 ?_
        refine lv_topi (fun z_22 ez_22 => ?_)
        refine lv_goto (tgt := 28) hx hb dX5_slackSites_24 (by decide) ?_
        exact K_19 z_22 ls  (lv_sub hl [0, 1, 2] rfl)

set_option maxHeartbeats 4000000 in
set_option maxRecDepth 100000 in
theorem s_slackSites (l : Launch) (E : EE) (h g1 g2 g3 g4 k : Nat) (ka ko : Int32) (f : Nat → Int32) (hk : f 3 = nI k) (hk8 : k ≤ 8) : Met l yX5_slackSites v_s_slackSites ({ frames := 2, cells := 0, slots := 0, locals := 43 }) (va_Pc [.ref h] (pP E [(h, .inr (6, [.ref g1, .ref g2, .int ka, .int ko, .ref g3, .ref g4])), (g1, .inl (E.2.1, 81, .inl f))])) (vp_Si (fun r : Int32 => True)) 0 0 (fun _ => False) := by
  refine Met.ofW (cc := cX5_slackSites) (maxL := 3) (ret := (some .int)) (by decide) rfl ?_
  intro p e s m args below meth c s₁ B hml hv
  obtain ⟨rfl, ⟨hK, hN⟩, hP⟩ := hv
  have hx := B.exec
  have hb := B.bytes
  have hr := B.returns
  have hts := atoms_spec (ws := v_s_slackSites) B.pre
  have hown : s.vm.findClass RX5 = some m.cls := findClass_of_methodNamed B.named
  have hlocks := B.notSynchronized
  have hP : va_P E.1 vwCl [(h, .inr (6, [.ref g1, .ref g2, .int ka, .int ko, .ref g3, .ref g4])), (g1, .inl (E.2.1, 81, .inl f))] s.heap := hP
  have hl := lv_entry ([.ref h]) (n := 3) (Nat.le_of_ble_eq_true rfl)
  rw [lg_entry_eq]
  generalize (lg_sl ([.ref h]) ++ List.replicate (3 - (lg_sl ([.ref h])).length) Slot.unset).toArray = ls at hl ⊢
  have hl : lv_has ls 3 [(0, .ref h)] := hl
  obtain ⟨Q, hQ⟩ : ∃ Q : State → Prop, Q = MQ below (vp_Si (fun r : Int32 => True)) #[Value.ref h] s 0 0 (fun _ => False) := ⟨_, rfl⟩
  rw [← hQ]
  change W p l e ({ frames := 2, cells := 0, slots := 0, locals := 43 } : Room) s m #[Value.ref h] below meth c s.heap [] 0 0 Q (F0 m 0 ls [])
  refine lv_iconst (v := 0) hx hb dX5_slackSites_0 (by decide) ?_
  refine lv_istore_n (lv' := [(1, .int 0), (0, .ref h)]) hx hb dX5_slackSites_1 rfl hl (by decide) rfl (fun ls hl => ?_)
  refine lv_iconst (v := 0) hx hb dX5_slackSites_2 (by decide) ?_
  refine lv_istore_n (lv' := [(2, .int 0), (1, .int 0), (0, .ref h)]) hx hb dX5_slackSites_3 rfl hl (by decide) rfl (fun ls hl => ?_)
  refine lp_s_slackSites_4 (h := h) (g1 := g1) (g2 := g2) (g3 := g3) (g4 := g4) (k := k) (ka := ka) (ko := ko) (f := f) l E hk hk8 hx hb hml hown hts hK hN hP ?_ (10) 0 0 ls (by omega) (by omega) (lv_sub hl [2, 1, 0] rfl)
  ·
    intro v1 i ls hi hl
    refine lv_iload_n hx hb dX5_slackSites_36 rfl (lv_at hl 1 rfl) ?_
    rw [hQ]
    exact W.iret (v := v1) hx hb hr (fun tt ht hW => ⟨_, rfl, trivial, ht⟩) (fun _ h => by cases h) dX5_slackSites_37

def v_s_unmovedSites : List Cond := .code yX5_unmovedSites cX5_unmovedSites 4 (some .int) :: ([.methodLink RX5 45 yX5_sites, .instanceMethod yX5_sites, .selects RX5 yX5_sites yX5_sites, .initialized RX5, .methodLink RX5 69 yX5_of, .instanceMethod yX5_of, .selects RX5 yX5_of yX5_of] ++ (v_s_sites ++ (v_s_of ++ ([]))))
theorem gw_s_unmovedSites : v_s_unmovedSites.all goodWord = true := by decide +kernel
theorem g_s_unmovedSites_s_sites_45 : GoodIn v_s_unmovedSites (wsV RX5 45 RX5 yX5_sites v_s_sites) := goodIn_app (goodIn_of _ (by decide +kernel)) (goodIn_sub (fun _ h => List.mem_cons_of_mem _ (List.mem_append_right _ (List.mem_append_left _ h))) gw_s_sites)
theorem g_s_unmovedSites_s_of_69 : GoodIn v_s_unmovedSites (wsV RX5 69 RX5 yX5_of v_s_of) := goodIn_app (goodIn_of _ (by decide +kernel)) (goodIn_sub (fun _ h => List.mem_cons_of_mem _ (List.mem_append_right _ (List.mem_append_right _ (List.mem_append_left _ h)))) gw_s_of)
set_option maxHeartbeats 4000000 in
set_option maxRecDepth 100000 in
theorem lp_s_unmovedSites_4 {p : Program} (l : Launch) {e : Env} {s : State} {m : MethodId} {below : List Frame} {meth : Method} {c : Code} {Q : State → Prop} (E : EE) {h g1 g2 g3 g4 k : Nat} {ka ko : Int32} {f : Nat → Int32} (hk : f 3 = nI k) (hk8 : k ≤ 8) (hx : p.tables.exec = Jvm.exec) (hb : c.code = cX5_unmovedSites) (hml : c.maxLocals = 4) (hown : s.vm.findClass RX5 = some m.cls) (hts : ∀ w ∈ v_s_unmovedSites, w.before #[Value.ref h] s = true) (hK : va_K E.1 vwCl (TY E) s) (hN : NX s) (hP : va_P E.1 vwCl [(h, .inr (6, [.ref g1, .ref g2, .int ka, .int ko, .ref g3, .ref g4])), (g1, .inl (E.2.1, 81, .inl f))] s.heap) (KX68 : ∀ (v1 : Int32), ∀ (i : Nat), ∀ (ls : Array Slot), i ≤ 8 → lv_has ls 4 [(0, .ref h), (1, .int v1), (2, .int (nI i))] → W p l e ({ frames := 1, cells := 0, slots := 0, locals := 22 } : Room) s m #[Value.ref h] below meth c s.heap [] 0 0 Q (F0 m 68 ls [])) : ∀ fuel9 : Nat, ∀ (v1 : Int32), ∀ (i : Nat), ∀ (ls : Array Slot), i ≤ 8 → (9 - i) < fuel9 → lv_has ls 4 [(0, .ref h), (1, .int v1), (2, .int (nI i))] → W p l e ({ frames := 1, cells := 0, slots := 0, locals := 22 } : Room) s m #[Value.ref h] below meth c s.heap [] 0 0 Q (F0 m 4 ls []) := by
  intro fuel9
  induction fuel9 with
  | zero =>
    intro v1 i ls hi hms hl
    omega
  | succ fuel9 ih =>
    intro v1 i ls hi hms hl
    refine lv_iload_n hx hb dX5_unmovedSites_4 rfl (lv_at hl 2 rfl) ?_
    refine lv_aload_n hx hb dX5_unmovedSites_5 rfl (lv_at hl 0 rfl) ?_
    have hPc := hP.sub (ws' := [(h, .inr (6, [.ref g1, .ref g2, .int ka, .int ko, .ref g3, .ref g4])), (g1, .inl (E.2.1, 81, .inl f))]) [0, 1] rfl
    refine pc_i (va_runV (As := []) (rest := [.int (nI i)]) ⟨hx, hb, hml, hown, hts⟩ (s_sites l E h g1 g2 g3 g4 k ka ko f hk (by omega)) (cwV 0 hts g_s_unmovedSites_s_sites_45 rfl rfl rfl (by decide +kernel) ⟨Nat.le_of_ble_eq_true rfl, Nat.le_of_ble_eq_true rfl⟩) ⟨pP.blind, va_recv hK hPc (ci := 6) (q0 := 0) rfl rfl, (pP.pre ⟨hK, hN⟩ hPc)⟩ rfl rfl hl.1 rfl (lv_room (Nat.le_of_ble_eq_true rfl)) dX5_unmovedSites_6 ⟨Nat.le_of_ble_eq_true rfl, Nat.le_of_ble_eq_true rfl⟩) (fun r_1 hr_1 => ?_)
    obtain rfl : r_1 = nI k := hr_1
    refine lv_icmp_ge (tgt := 68) hx hb dX5_unmovedSites_9 (by decide) (fun c_2 => ?_) (fun c_2 => ?_)
    ·
      have d_26 : k ≤ i := nc_ge (a := i) (b := k) (by omega) (by omega) c_2
      exact KX68 v1 i ls (by omega) (lv_sub hl [0, 1, 2] rfl)
    ·
      have d_27 : ¬ (k ≤ i) := nc_ge_n (a := i) (b := k) (by omega) (by omega) c_2
      refine lv_aload_n hx hb dX5_unmovedSites_12 rfl (lv_at hl 0 rfl) ?_
      refine lv_iload_n hx hb dX5_unmovedSites_13 rfl (lv_at hl 2 rfl) ?_
      refine lv_iconst (v := 0) hx hb dX5_unmovedSites_14 (by decide) ?_
      have hPc := hP.sub (ws' := [(h, .inr (6, [.ref g1, .ref g2, .int ka, .int ko, .ref g3, .ref g4])), (g1, .inl (E.2.1, 81, .inl f))]) [0, 1] rfl
      refine pc_i (va_runV (As := [.int (nI i), .int 0]) (rest := []) ⟨hx, hb, hml, hown, hts⟩ (s_of l E h g1 g2 g3 g4 k ka ko f (nI i) 0 hk (by omega)) (cwV 2 hts g_s_unmovedSites_s_of_69 rfl rfl rfl (by decide +kernel) ⟨Nat.le_of_ble_eq_true rfl, Nat.le_of_ble_eq_true rfl⟩) ⟨pP.blind, va_recv hK hPc (ci := 6) (q0 := 0) rfl rfl, (pP.pre ⟨hK, hN⟩ hPc)⟩ rfl rfl hl.1 rfl (lv_room (Nat.le_of_ble_eq_true rfl)) dX5_unmovedSites_15 ⟨Nat.le_of_ble_eq_true rfl, Nat.le_of_ble_eq_true rfl⟩) (fun r_28 hr_28 => ?_)
      refine lv_aload_n hx hb dX5_unmovedSites_18 rfl (lv_at hl 0 rfl) ?_
      refine lv_iload_n hx hb dX5_unmovedSites_19 rfl (lv_at hl 2 rfl) ?_
      refine lv_iconst (v := 2) hx hb dX5_unmovedSites_20 (by decide) ?_
      have hPc := hP.sub (ws' := [(h, .inr (6, [.ref g1, .ref g2, .int ka, .int ko, .ref g3, .ref g4])), (g1, .inl (E.2.1, 81, .inl f))]) [0, 1] rfl
      refine pc_i (va_runV (As := [.int (nI i), .int 2]) (rest := [.int r_28]) ⟨hx, hb, hml, hown, hts⟩ (s_of l E h g1 g2 g3 g4 k ka ko f (nI i) 2 hk (by omega)) (cwV 2 hts g_s_unmovedSites_s_of_69 rfl rfl rfl (by decide +kernel) ⟨Nat.le_of_ble_eq_true rfl, Nat.le_of_ble_eq_true rfl⟩) ⟨pP.blind, va_recv hK hPc (ci := 6) (q0 := 0) rfl rfl, (pP.pre ⟨hK, hN⟩ hPc)⟩ rfl rfl hl.1 rfl (lv_room (Nat.le_of_ble_eq_true rfl)) dX5_unmovedSites_21 ⟨Nat.le_of_ble_eq_true rfl, Nat.le_of_ble_eq_true rfl⟩) (fun r_29 hr_29 => ?_)
      have K_37 : ∀ (y_36 : Nat), ∀ (ls : Array Slot), y_36 ≤ 1 → lv_has ls 4 [(0, .ref h), (1, .int v1), (2, .int (nI i))] → W p l e ({ frames := 1, cells := 0, slots := 0, locals := 22 } : Room) s m #[Value.ref h] below meth c s.heap [] 0 0 Q (F0 m 47 ls [.int (nI y_36)]) := by
        intro y_36 ls hy_36 hl
        refine lv_istore_n (lv' := [(3, .int (nI y_36)), (0, .ref h), (1, .int v1), (2, .int (nI i))]) hx hb dX5_unmovedSites_47 rfl hl (by decide) rfl (fun ls hl => ?_)
        refine lv_iload_n hx hb dX5_unmovedSites_48 rfl (lv_at hl 2 rfl) ?_
        refine lv_iload_n hx hb dX5_unmovedSites_49 rfl (lv_at hl 0 rfl) ?_
        have K_41 : ∀ (y_40 : Int32), ∀ (ls : Array Slot), lv_has ls 4 [(0, .ref h), (1, .int v1), (2, .int (nI i)), (3, .int (nI y_36))] → W p l e ({ frames := 1, cells := 0, slots := 0, locals := 22 } : Room) s m #[Value.ref h] below meth c s.heap [] 0 0 Q (F0 m 60 ls [.int y_40, .int v1]) := by
          intro y_40 ls hl
          refine lv_ior hx hb dX5_unmovedSites_60 ?_
          refine lv_topi (fun z_42 ez_42 => ?_)
          refine lv_istore_n (lv' := [(1, .int z_42), (0, .ref h), (2, .int (nI i)), (3, .int (nI y_36))]) hx hb dX5_unmovedSites_61 rfl hl (by decide) rfl (fun ls hl => ?_)
          refine lv_iinc (v := nI (i + 1)) (lv' := [(2, .int (nI (i + 1))), (1, .int z_42), (0, .ref h), (3, .int (nI y_36))]) hx hb dX5_unmovedSites_62 hl (k := 2) rfl (show nI (i) + 1 = nI (i + 1) from nI_add _ 1) (by decide) rfl (fun ls hl => ?_)
          refine lv_goto (tgt := 4) hx hb dX5_unmovedSites_65 (by decide) ?_
          exact ih z_42 (i + 1) ls (by omega) (by omega) (lv_sub hl [2, 1, 0] rfl)
        refine lv_if_eq (tgt := 59) hx hb dX5_unmovedSites_50 (by decide) (fun c_38 => ?_) (fun c_38 => ?_)
        ·
          have d_43 : y_36 = 0 := nc_eq (a := y_36) (b := 0) (by omega) (by omega) c_38
          refine lv_iconst (v := 0) hx hb dX5_unmovedSites_59 (by decide) ?_
          exact K_41 0 ls  (lv_sub hl [1, 2, 3, 0] rfl)
        ·
          have d_44 : ¬ (y_36 = 0) := nc_eq_n (a := y_36) (b := 0) (by omega) (by omega) c_38
          refine lv_iconst (v := 1) hx hb dX5_unmovedSites_53 (by decide) ?_
          refine lv_iload_n hx hb dX5_unmovedSites_54 rfl (lv_at hl 3 rfl) ?_
          refine lv_ishl hx hb dX5_unmovedSites_55 ?_
          refine lv_topi (fun z_45 ez_45 => ?_)
          refine lv_goto (tgt := 60) hx hb dX5_unmovedSites_56 (by decide) ?_
          exact K_41 z_45 ls  (lv_sub hl [1, 2, 3, 0] rfl)
      refine lv_icmp_ne (tgt := 46) hx hb dX5_unmovedSites_24 (by decide) (fun c_30 => ?_) (fun c_30 => ?_)
      ·
        refine lv_iconst (v := 0) hx hb dX5_unmovedSites_46 (by decide) ?_
        exact K_37 0 ls (by omega) (lv_sub hl [0, 1, 2] rfl)
      ·
        refine lv_aload_n hx hb dX5_unmovedSites_27 rfl (lv_at hl 0 rfl) ?_
        refine lv_iload_n hx hb dX5_unmovedSites_28 rfl (lv_at hl 2 rfl) ?_
        refine lv_iconst (v := 1) hx hb dX5_unmovedSites_29 (by decide) ?_
        have hPc := hP.sub (ws' := [(h, .inr (6, [.ref g1, .ref g2, .int ka, .int ko, .ref g3, .ref g4])), (g1, .inl (E.2.1, 81, .inl f))]) [0, 1] rfl
        refine pc_i (va_runV (As := [.int (nI i), .int 1]) (rest := []) ⟨hx, hb, hml, hown, hts⟩ (s_of l E h g1 g2 g3 g4 k ka ko f (nI i) 1 hk (by omega)) (cwV 2 hts g_s_unmovedSites_s_of_69 rfl rfl rfl (by decide +kernel) ⟨Nat.le_of_ble_eq_true rfl, Nat.le_of_ble_eq_true rfl⟩) ⟨pP.blind, va_recv hK hPc (ci := 6) (q0 := 0) rfl rfl, (pP.pre ⟨hK, hN⟩ hPc)⟩ rfl rfl hl.1 rfl (lv_room (Nat.le_of_ble_eq_true rfl)) dX5_unmovedSites_30 ⟨Nat.le_of_ble_eq_true rfl, Nat.le_of_ble_eq_true rfl⟩) (fun r_46 hr_46 => ?_)
        refine lv_aload_n hx hb dX5_unmovedSites_33 rfl (lv_at hl 0 rfl) ?_
        refine lv_iload_n hx hb dX5_unmovedSites_34 rfl (lv_at hl 2 rfl) ?_
        refine lv_iconst (v := 3) hx hb dX5_unmovedSites_35 (by decide) ?_
        have hPc := hP.sub (ws' := [(h, .inr (6, [.ref g1, .ref g2, .int ka, .int ko, .ref g3, .ref g4])), (g1, .inl (E.2.1, 81, .inl f))]) [0, 1] rfl
        refine pc_i (va_runV (As := [.int (nI i), .int 3]) (rest := [.int r_46]) ⟨hx, hb, hml, hown, hts⟩ (s_of l E h g1 g2 g3 g4 k ka ko f (nI i) 3 hk (by omega)) (cwV 2 hts g_s_unmovedSites_s_of_69 rfl rfl rfl (by decide +kernel) ⟨Nat.le_of_ble_eq_true rfl, Nat.le_of_ble_eq_true rfl⟩) ⟨pP.blind, va_recv hK hPc (ci := 6) (q0 := 0) rfl rfl, (pP.pre ⟨hK, hN⟩ hPc)⟩ rfl rfl hl.1 rfl (lv_room (Nat.le_of_ble_eq_true rfl)) dX5_unmovedSites_36 ⟨Nat.le_of_ble_eq_true rfl, Nat.le_of_ble_eq_true rfl⟩) (fun r_47 hr_47 => ?_)
        have K_50 : ∀ (y_49 : Nat), ∀ (ls : Array Slot), y_49 ≤ 1 → lv_has ls 4 [(0, .ref h), (1, .int v1), (2, .int (nI i))] → W p l e ({ frames := 1, cells := 0, slots := 0, locals := 22 } : Room) s m #[Value.ref h] below meth c s.heap [] 0 0 Q (F0 m 47 ls [.int (nI y_49)]) := by
          intro y_49 ls hy_49 hl
          exact K_37 y_49 ls (by omega) (lv_sub hl [0, 1, 2] rfl)
        refine lv_icmp_ne (tgt := 46) hx hb dX5_unmovedSites_39 (by decide) (fun c_48 => ?_) (fun c_48 => ?_)
        ·
          refine lv_iconst (v := 0) hx hb dX5_unmovedSites_46 (by decide) ?_
          exact K_50 0 ls (by omega) (lv_sub hl [0, 1, 2] rfl)
        ·
          refine lv_iconst (v := 1) hx hb dX5_unmovedSites_42 (by decide) ?_
          refine lv_goto (tgt := 47) hx hb dX5_unmovedSites_43 (by decide) ?_
          exact K_50 1 ls (by omega) (lv_sub hl [0, 1, 2] rfl)

set_option maxHeartbeats 4000000 in
set_option maxRecDepth 100000 in
theorem s_unmovedSites (l : Launch) (E : EE) (h g1 g2 g3 g4 k : Nat) (ka ko : Int32) (f : Nat → Int32) (hk : f 3 = nI k) (hk8 : k ≤ 8) : Met l yX5_unmovedSites v_s_unmovedSites ({ frames := 1, cells := 0, slots := 0, locals := 22 }) (va_Pc [.ref h] (pP E [(h, .inr (6, [.ref g1, .ref g2, .int ka, .int ko, .ref g3, .ref g4])), (g1, .inl (E.2.1, 81, .inl f))])) (vp_Si (fun r : Int32 => True)) 0 0 (fun _ => False) := by
  refine Met.ofW (cc := cX5_unmovedSites) (maxL := 4) (ret := (some .int)) (by decide) rfl ?_
  intro p e s m args below meth c s₁ B hml hv
  obtain ⟨rfl, ⟨hK, hN⟩, hP⟩ := hv
  have hx := B.exec
  have hb := B.bytes
  have hr := B.returns
  have hts := atoms_spec (ws := v_s_unmovedSites) B.pre
  have hown : s.vm.findClass RX5 = some m.cls := findClass_of_methodNamed B.named
  have hlocks := B.notSynchronized
  have hP : va_P E.1 vwCl [(h, .inr (6, [.ref g1, .ref g2, .int ka, .int ko, .ref g3, .ref g4])), (g1, .inl (E.2.1, 81, .inl f))] s.heap := hP
  have hl := lv_entry ([.ref h]) (n := 4) (Nat.le_of_ble_eq_true rfl)
  rw [lg_entry_eq]
  generalize (lg_sl ([.ref h]) ++ List.replicate (4 - (lg_sl ([.ref h])).length) Slot.unset).toArray = ls at hl ⊢
  have hl : lv_has ls 4 [(0, .ref h)] := hl
  obtain ⟨Q, hQ⟩ : ∃ Q : State → Prop, Q = MQ below (vp_Si (fun r : Int32 => True)) #[Value.ref h] s 0 0 (fun _ => False) := ⟨_, rfl⟩
  rw [← hQ]
  change W p l e ({ frames := 1, cells := 0, slots := 0, locals := 22 } : Room) s m #[Value.ref h] below meth c s.heap [] 0 0 Q (F0 m 0 ls [])
  refine lv_iconst (v := 0) hx hb dX5_unmovedSites_0 (by decide) ?_
  refine lv_istore_n (lv' := [(1, .int 0), (0, .ref h)]) hx hb dX5_unmovedSites_1 rfl hl (by decide) rfl (fun ls hl => ?_)
  refine lv_iconst (v := 0) hx hb dX5_unmovedSites_2 (by decide) ?_
  refine lv_istore_n (lv' := [(2, .int 0), (1, .int 0), (0, .ref h)]) hx hb dX5_unmovedSites_3 rfl hl (by decide) rfl (fun ls hl => ?_)
  refine lp_s_unmovedSites_4 (h := h) (g1 := g1) (g2 := g2) (g3 := g3) (g4 := g4) (k := k) (ka := ka) (ko := ko) (f := f) l E hk hk8 hx hb hml hown hts hK hN hP ?_ (10) 0 0 ls (by omega) (by omega) (lv_sub hl [2, 1, 0] rfl)
  ·
    intro v1 i ls hi hl
    refine lv_iload_n hx hb dX5_unmovedSites_68 rfl (lv_at hl 1 rfl) ?_
    rw [hQ]
    exact W.iret (v := v1) hx hb hr (fun tt ht hW => ⟨_, rfl, trivial, ht⟩) (fun _ h => by cases h) dX5_unmovedSites_69

def v_s_isReached : List Cond := .code yX5_isReached cX5_isReached 1 (some .boolean) :: ([.fieldLink RX5 11 "HushWatch$State" "row" "[I"] ++ (wsX50 ++ ([])))
theorem gw_s_isReached : v_s_isReached.all goodWord = true := by decide +kernel
theorem i_s_isReached_X5 : ∀ w ∈ wsX50, w ∈ v_s_isReached := fun _ h => List.mem_cons_of_mem _ (List.mem_append_right _ (List.mem_append_left _ h))
set_option maxHeartbeats 4000000 in
set_option maxRecDepth 100000 in
theorem s_isReached (l : Launch) (E : EE) (h g1 g2 g3 g4 k : Nat) (ka ko : Int32) (f : Nat → Int32) (hk : f 3 = nI k) (hk8 : k ≤ 8) : Met l yX5_isReached v_s_isReached ({ frames := 0, cells := 0, slots := 0, locals := 0 }) (va_Pc [.ref h] (pP E [(h, .inr (6, [.ref g1, .ref g2, .int ka, .int ko, .ref g3, .ref g4])), (g1, .inl (E.2.1, 81, .inl f))])) (vp_Si (fun r : Int32 => r = 0 ∨ r = 1)) 0 0 (fun _ => False) := by
  refine Met.ofW (cc := cX5_isReached) (maxL := 1) (ret := (some .boolean)) (by decide) rfl ?_
  intro p e s m args below meth c s₁ B hml hv
  obtain ⟨rfl, ⟨hK, hN⟩, hP⟩ := hv
  have hx := B.exec
  have hb := B.bytes
  have hr := B.returns
  have hts := atoms_spec (ws := v_s_isReached) B.pre
  have hown : s.vm.findClass RX5 = some m.cls := findClass_of_methodNamed B.named
  have hlocks := B.notSynchronized
  have hP : va_P E.1 vwCl [(h, .inr (6, [.ref g1, .ref g2, .int ka, .int ko, .ref g3, .ref g4])), (g1, .inl (E.2.1, 81, .inl f))] s.heap := hP
  have hl := lv_entry ([.ref h]) (n := 1) (Nat.le_of_ble_eq_true rfl)
  rw [lg_entry_eq]
  generalize (lg_sl ([.ref h]) ++ List.replicate (1 - (lg_sl ([.ref h])).length) Slot.unset).toArray = ls at hl ⊢
  have hl : lv_has ls 1 [(0, .ref h)] := hl
  obtain ⟨Q, hQ⟩ : ∃ Q : State → Prop, Q = MQ below (vp_Si (fun r : Int32 => r = 0 ∨ r = 1)) #[Value.ref h] s 0 0 (fun _ => False) := ⟨_, rfl⟩
  rw [← hQ]
  change W p l e ({ frames := 0, cells := 0, slots := 0, locals := 0 } : Room) s m #[Value.ref h] below meth c s.heap [] 0 0 Q (F0 m 0 ls [])
  refine lv_aload_n hx hb dX5_isReached_0 rfl (lv_at hl 0 rfl) ?_
  refine va_get (D := E.1) (ci := 6) (v := .ref g1) (C := RX5) (T := TX5) (N := 6) hx hb hts i_s_isReached_X5 hown hK hP 0 rfl rfl 0 (by decide) (hts (.fieldLink RX5 11 "HushWatch$State" "row" "[I") (List.mem_of_getElem? (i := 1) rfl)) (fun _ h9 => h9) rfl dX5_isReached_1 ?_
  refine lv_bipush (v := 8) hx hb dX5_isReached_4 (by decide) ?_
  refine va_iald hx hb hK hP 1 0 rfl rfl (vin rfl) dX5_isReached_6 ?_
  refine W.eq (g2 := F0 m 7 ls [.int (f 8)]) rfl ?_
  refine lv_topi (fun z_1 ez_1 => ?_)
  refine lv_aload_n hx hb dX5_isReached_7 rfl (lv_at hl 0 rfl) ?_
  refine va_get (D := E.1) (ci := 6) (v := .ref g1) (C := RX5) (T := TX5) (N := 6) hx hb hts i_s_isReached_X5 hown hK hP 0 rfl rfl 0 (by decide) (hts (.fieldLink RX5 11 "HushWatch$State" "row" "[I") (List.mem_of_getElem? (i := 1) rfl)) (fun _ h9 => h9) rfl dX5_isReached_8 ?_
  refine lv_iconst (v := 2) hx hb dX5_isReached_11 (by decide) ?_
  refine va_iald hx hb hK hP 1 0 rfl rfl (vin rfl) dX5_isReached_12 ?_
  refine W.eq (g2 := F0 m 13 ls [.int (f 2), .int z_1]) rfl ?_
  refine lv_topi (fun z_2 ez_2 => ?_)
  have K_5 : ∀ (y_4 : Nat), ∀ (ls : Array Slot), y_4 ≤ 1 → lv_has ls 1 [(0, .ref h)] → W p l e ({ frames := 0, cells := 0, slots := 0, locals := 0 } : Room) s m #[Value.ref h] below meth c s.heap [] 0 0 Q (F0 m 21 ls [.int (nI y_4)]) := by
    intro y_4 ls hy_4 hl
    rw [hQ]
    exact W.zret (v := nI y_4) hx hb hr (nar_nat (by omega)) (fun tt ht hW => ⟨_, rfl, nat_bool (by omega), ht⟩) (fun _ h => by cases h) dX5_isReached_21
  refine lv_icmp_lt (tgt := 20) hx hb dX5_isReached_13 (by decide) (fun c_3 => ?_) (fun c_3 => ?_)
  ·
    refine lv_iconst (v := 0) hx hb dX5_isReached_20 (by decide) ?_
    exact K_5 0 ls (by omega) (lv_sub hl [0] rfl)
  ·
    refine lv_iconst (v := 1) hx hb dX5_isReached_16 (by decide) ?_
    refine lv_goto (tgt := 21) hx hb dX5_isReached_17 (by decide) ?_
    exact K_5 1 ls (by omega) (lv_sub hl [0] rfl)

def v_s_stepFrom : List Cond := .code yX5_stepFrom cX5_stepFrom 3 (some .int) :: ([.fieldLink RX5 11 "HushWatch$State" "row" "[I"] ++ (wsX50 ++ ([])))
theorem gw_s_stepFrom : v_s_stepFrom.all goodWord = true := by decide +kernel
theorem i_s_stepFrom_X5 : ∀ w ∈ wsX50, w ∈ v_s_stepFrom := fun _ h => List.mem_cons_of_mem _ (List.mem_append_right _ (List.mem_append_left _ h))
set_option maxHeartbeats 4000000 in
set_option maxRecDepth 100000 in
theorem s_stepFrom (l : Launch) (E : EE) (h g1 g2 g3 g4 k : Nat) (ka ko : Int32) (f : Nat → Int32) (p0 : Int32) (hk : f 3 = nI k) (hk8 : k ≤ 8) : Met l yX5_stepFrom v_s_stepFrom ({ frames := 0, cells := 0, slots := 0, locals := 0 }) (va_Pc [.ref h, .int p0] (pP E [(h, .inr (6, [.ref g1, .ref g2, .int ka, .int ko, .ref g3, .ref g4])), (g1, .inl (E.2.1, 81, .inl f))])) (vp_Si (fun r : Int32 => True)) 0 0 (fun _ => False) := by
  refine Met.ofW (cc := cX5_stepFrom) (maxL := 3) (ret := (some .int)) (by decide) rfl ?_
  intro p e s m args below meth c s₁ B hml hv
  obtain ⟨rfl, ⟨hK, hN⟩, hP⟩ := hv
  have hx := B.exec
  have hb := B.bytes
  have hr := B.returns
  have hts := atoms_spec (ws := v_s_stepFrom) B.pre
  have hown : s.vm.findClass RX5 = some m.cls := findClass_of_methodNamed B.named
  have hlocks := B.notSynchronized
  have hP : va_P E.1 vwCl [(h, .inr (6, [.ref g1, .ref g2, .int ka, .int ko, .ref g3, .ref g4])), (g1, .inl (E.2.1, 81, .inl f))] s.heap := hP
  have hl := lv_entry ([.ref h, .int p0]) (n := 3) (Nat.le_of_ble_eq_true rfl)
  rw [lg_entry_eq]
  generalize (lg_sl ([.ref h, .int p0]) ++ List.replicate (3 - (lg_sl ([.ref h, .int p0])).length) Slot.unset).toArray = ls at hl ⊢
  have hl : lv_has ls 3 [(0, .ref h), (1, .int p0)] := hl
  obtain ⟨Q, hQ⟩ : ∃ Q : State → Prop, Q = MQ below (vp_Si (fun r : Int32 => True)) #[Value.ref h, Value.int p0] s 0 0 (fun _ => False) := ⟨_, rfl⟩
  rw [← hQ]
  change W p l e ({ frames := 0, cells := 0, slots := 0, locals := 0 } : Room) s m #[Value.ref h, Value.int p0] below meth c s.heap [] 0 0 Q (F0 m 0 ls [])
  refine lv_iconst (v := 2) hx hb dX5_stepFrom_0 (by decide) ?_
  refine lv_aload_n hx hb dX5_stepFrom_1 rfl (lv_at hl 0 rfl) ?_
  refine va_get (D := E.1) (ci := 6) (v := .ref g1) (C := RX5) (T := TX5) (N := 6) hx hb hts i_s_stepFrom_X5 hown hK hP 0 rfl rfl 0 (by decide) (hts (.fieldLink RX5 11 "HushWatch$State" "row" "[I") (List.mem_of_getElem? (i := 1) rfl)) (fun _ h9 => h9) rfl dX5_stepFrom_2 ?_
  refine lv_iconst (v := 3) hx hb dX5_stepFrom_5 (by decide) ?_
  refine va_iald hx hb hK hP 1 0 rfl rfl (vin rfl) dX5_stepFrom_6 ?_
  refine W.eq (g2 := F0 m 7 ls [.int (f 3), .int 2]) rfl ?_
  refine W.eq (g2 := F0 m 7 ls [.int (nI k), .int 2]) (by rw [hk]) ?_
  refine lv_imul hx hb dX5_stepFrom_7 ?_
  refine lv_topi (fun z_1 ez_1 => ?_)
  obtain rfl : z_1 = nI (2 * k) := ez_1.trans (nI_mul 2 _)
  refine lv_istore_n (lv' := [(2, .int (nI (2 * k))), (0, .ref h), (1, .int p0)]) hx hb dX5_stepFrom_8 rfl hl (by decide) rfl (fun ls hl => ?_)
  refine lv_iload_n hx hb dX5_stepFrom_9 rfl (lv_at hl 0 rfl) ?_
  have K_14 : ∀ (y_13 : Int32), ∀ (ls : Array Slot), lv_has ls 3 [(0, .ref h), (1, .int p0), (2, .int (nI (2 * k)))] → W p l e ({ frames := 0, cells := 0, slots := 0, locals := 0 } : Room) s m #[Value.ref h, Value.int p0] below meth c s.heap [] 0 0 Q (F0 m 37 ls [.int y_13]) := by
    intro y_13 ls hl
    rw [hQ]
    exact W.iret (v := y_13) hx hb hr (fun tt ht hW => ⟨_, rfl, trivial, ht⟩) (fun _ h => by cases h) dX5_stepFrom_37
  refine lv_if_le (tgt := 23) hx hb dX5_stepFrom_10 (by decide) (fun c_2 => ?_) (fun c_2 => ?_)
  ·
    have d_15 : (2 * k) ≤ 0 := nc_le (a := (2 * k)) (b := 0) (by omega) (by omega) c_2
    refine lv_iconst (v := 0) hx hb dX5_stepFrom_23 (by decide) ?_
    refine lv_goto (tgt := 37) hx hb dX5_stepFrom_24 (by decide) ?_
    exact K_14 0 ls  (lv_sub hl [1, 2, 0] rfl)
  ·
    have d_16 : ¬ ((2 * k) ≤ 0) := nc_le_n (a := (2 * k)) (b := 0) (by omega) (by omega) c_2
    refine lv_iload_n hx hb dX5_stepFrom_13 rfl (lv_at hl 2 rfl) ?_
    refine lv_aload_n hx hb dX5_stepFrom_14 rfl (lv_at hl 1 rfl) ?_
    refine va_get (D := E.1) (ci := 6) (v := .ref g1) (C := RX5) (T := TX5) (N := 6) hx hb hts i_s_stepFrom_X5 hown hK hP 0 rfl rfl 0 (by decide) (hts (.fieldLink RX5 11 "HushWatch$State" "row" "[I") (List.mem_of_getElem? (i := 1) rfl)) (fun _ h9 => h9) rfl dX5_stepFrom_15 ?_
    refine lv_iconst (v := 2) hx hb dX5_stepFrom_18 (by decide) ?_
    refine va_iald hx hb hK hP 1 0 rfl rfl (vin rfl) dX5_stepFrom_19 ?_
    refine W.eq (g2 := F0 m 20 ls [.int (f 2), .int p0]) rfl ?_
    refine lv_topi (fun z_17 ez_17 => ?_)
    have K_23 : ∀ (y_22 : Int32), ∀ (ls : Array Slot), lv_has ls 3 [(0, .ref h), (1, .int p0), (2, .int (nI (2 * k)))] → W p l e ({ frames := 0, cells := 0, slots := 0, locals := 0 } : Room) s m #[Value.ref h, Value.int p0] below meth c s.heap [] 0 0 Q (F0 m 37 ls [.int y_22]) := by
      intro y_22 ls hl
      exact K_14 y_22 ls  (lv_sub hl [0, 1, 2] rfl)
    refine lv_icmp_lt (tgt := 27) hx hb dX5_stepFrom_20 (by decide) (fun c_18 => ?_) (fun c_18 => ?_)
    ·
      refine lv_aload_n hx hb dX5_stepFrom_27 rfl (lv_at hl 1 rfl) ?_
      refine va_get (D := E.1) (ci := 6) (v := .ref g1) (C := RX5) (T := TX5) (N := 6) hx hb hts i_s_stepFrom_X5 hown hK hP 0 rfl rfl 0 (by decide) (hts (.fieldLink RX5 11 "HushWatch$State" "row" "[I") (List.mem_of_getElem? (i := 1) rfl)) (fun _ h9 => h9) rfl dX5_stepFrom_28 ?_
      refine lv_iconst (v := 2) hx hb dX5_stepFrom_31 (by decide) ?_
      refine va_iald hx hb hK hP 1 0 rfl rfl (vin rfl) dX5_stepFrom_32 ?_
      refine W.eq (g2 := F0 m 33 ls [.int (f 2)]) rfl ?_
      refine lv_topi (fun z_24 ez_24 => ?_)
      refine lv_iload_n hx hb dX5_stepFrom_33 rfl (lv_at hl 2 rfl) ?_
      refine lv_isub hx hb dX5_stepFrom_34 ?_
      refine lv_topi (fun z_25 ez_25 => ?_)
      refine lv_iload_n hx hb dX5_stepFrom_35 rfl (lv_at hl 0 rfl) ?_
      refine lv_idiv hx hb dX5_stepFrom_36 (fun q9 => by have q7 := nc_eq (a := 2 * k) (b := 0) (by omega) (by omega) q9; omega) ?_
      refine lv_topi (fun z_26 ez_26 => ?_)
      exact K_23 z_26 ls  (lv_sub hl [1, 2, 0] rfl)
    ·
      refine lv_iconst (v := 0) hx hb dX5_stepFrom_23 (by decide) ?_
      refine lv_goto (tgt := 37) hx hb dX5_stepFrom_24 (by decide) ?_
      exact K_23 0 ls  (lv_sub hl [1, 2, 0] rfl)

def v_s_setRefusal : List Cond := .code yX5_setRefusal cX5_setRefusal 4 (some .int) :: ([] ++ ([]))
theorem gw_s_setRefusal : v_s_setRefusal.all goodWord = true := by decide +kernel
set_option maxHeartbeats 4000000 in
set_option maxRecDepth 100000 in
theorem s_setRefusal (l : Launch) (E : EE) (p0 p1 p2 p3 : Int32) : Met l yX5_setRefusal v_s_setRefusal ({ frames := 0, cells := 0, slots := 0, locals := 0 }) (va_Pc [.int p0, .int p1, .int p2, .int p3] (pP E [])) (vp_Si (fun r : Int32 => True)) 0 0 (fun _ => False) := by
  refine Met.ofW (cc := cX5_setRefusal) (maxL := 4) (ret := (some .int)) (by decide) rfl ?_
  intro p e s m args below meth c s₁ B hml hv
  obtain ⟨rfl, ⟨hK, hN⟩, hP⟩ := hv
  have hx := B.exec
  have hb := B.bytes
  have hr := B.returns
  have hts := atoms_spec (ws := v_s_setRefusal) B.pre
  have hown : s.vm.findClass RX5 = some m.cls := findClass_of_methodNamed B.named
  have hlocks := B.notSynchronized
  have hP : va_P E.1 vwCl [] s.heap := hP
  have hl := lv_entry ([.int p0, .int p1, .int p2, .int p3]) (n := 4) (Nat.le_of_ble_eq_true rfl)
  rw [lg_entry_eq]
  generalize (lg_sl ([.int p0, .int p1, .int p2, .int p3]) ++ List.replicate (4 - (lg_sl ([.int p0, .int p1, .int p2, .int p3])).length) Slot.unset).toArray = ls at hl ⊢
  have hl : lv_has ls 4 [(0, .int p0), (1, .int p1), (2, .int p2), (3, .int p3)] := hl
  obtain ⟨Q, hQ⟩ : ∃ Q : State → Prop, Q = MQ below (vp_Si (fun r : Int32 => True)) #[Value.int p0, Value.int p1, Value.int p2, Value.int p3] s 0 0 (fun _ => False) := ⟨_, rfl⟩
  rw [← hQ]
  change W p l e ({ frames := 0, cells := 0, slots := 0, locals := 0 } : Room) s m #[Value.int p0, Value.int p1, Value.int p2, Value.int p3] below meth c s.heap [] 0 0 Q (F0 m 0 ls [])
  refine lv_iload_n hx hb dX5_setRefusal_0 rfl (lv_at hl 0 rfl) ?_
  refine lv_iload_n hx hb dX5_setRefusal_1 rfl (lv_at hl 1 rfl) ?_
  refine lv_icmp_lt (tgt := 10) hx hb dX5_setRefusal_2 (by decide) (fun c_1 => ?_) (fun c_1 => ?_)
  ·
    refine lv_iconst (v := 1) hx hb dX5_setRefusal_10 (by decide) ?_
    rw [hQ]
    exact W.iret (v := 1) hx hb hr (fun tt ht hW => ⟨_, rfl, trivial, ht⟩) (fun _ h => by cases h) dX5_setRefusal_11
  ·
    refine lv_iload_n hx hb dX5_setRefusal_5 rfl (lv_at hl 0 rfl) ?_
    refine lv_iload_n hx hb dX5_setRefusal_6 rfl (lv_at hl 2 rfl) ?_
    refine lv_icmp_le (tgt := 12) hx hb dX5_setRefusal_7 (by decide) (fun c_2 => ?_) (fun c_2 => ?_)
    ·
      refine lv_iload_n hx hb dX5_setRefusal_12 rfl (lv_at hl 0 rfl) ?_
      refine lv_iload_n hx hb dX5_setRefusal_13 rfl (lv_at hl 3 rfl) ?_
      have K_5 : ∀ (y_4 : Int32), ∀ (ls : Array Slot), lv_has ls 4 [(0, .int p0), (1, .int p1), (2, .int p2), (3, .int p3)] → W p l e ({ frames := 0, cells := 0, slots := 0, locals := 0 } : Room) s m #[Value.int p0, Value.int p1, Value.int p2, Value.int p3] below meth c s.heap [] 0 0 Q (F0 m 22 ls [.int y_4]) := by
        intro y_4 ls hl
        rw [hQ]
        exact W.iret (v := y_4) hx hb hr (fun tt ht hW => ⟨_, rfl, trivial, ht⟩) (fun _ h => by cases h) dX5_setRefusal_22
      refine lv_icmp_ne (tgt := 21) hx hb dX5_setRefusal_14 (by decide) (fun c_3 => ?_) (fun c_3 => ?_)
      ·
        refine lv_iconst (v := -1) hx hb dX5_setRefusal_21 (by decide) ?_
        exact K_5 (-1) ls  (lv_sub hl [0, 1, 2, 3] rfl)
      ·
        refine lv_iconst (v := 2) hx hb dX5_setRefusal_17 (by decide) ?_
        refine lv_goto (tgt := 22) hx hb dX5_setRefusal_18 (by decide) ?_
        exact K_5 2 ls  (lv_sub hl [0, 1, 2, 3] rfl)
    ·
      refine lv_iconst (v := 1) hx hb dX5_setRefusal_10 (by decide) ?_
      rw [hQ]
      exact W.iret (v := 1) hx hb hr (fun tt ht hW => ⟨_, rfl, trivial, ht⟩) (fun _ h => by cases h) dX5_setRefusal_11

def v_x_isMovable : List Cond := .code yX7_isMovable cX7_isMovable 2 (some .boolean) :: ([] ++ ([]))
theorem gw_x_isMovable : v_x_isMovable.all goodWord = true := by decide +kernel
set_option maxHeartbeats 4000000 in
set_option maxRecDepth 100000 in
theorem x_isMovable (l : Launch) (E : EE) (p0 p1 : Int32) : Met l yX7_isMovable v_x_isMovable ({ frames := 0, cells := 0, slots := 0, locals := 0 }) (va_Pc [.int p0, .int p1] (pP E [])) (vp_Si (fun r : Int32 => r = 0 ∨ r = 1)) 0 0 (fun _ => False) := by
  refine Met.ofW (cc := cX7_isMovable) (maxL := 2) (ret := (some .boolean)) (by decide) rfl ?_
  intro p e s m args below meth c s₁ B hml hv
  obtain ⟨rfl, ⟨hK, hN⟩, hP⟩ := hv
  have hx := B.exec
  have hb := B.bytes
  have hr := B.returns
  have hts := atoms_spec (ws := v_x_isMovable) B.pre
  have hown : s.vm.findClass RX7 = some m.cls := findClass_of_methodNamed B.named
  have hlocks := B.notSynchronized
  have hP : va_P E.1 vwCl [] s.heap := hP
  have hl := lv_entry ([.int p0, .int p1]) (n := 2) (Nat.le_of_ble_eq_true rfl)
  rw [lg_entry_eq]
  generalize (lg_sl ([.int p0, .int p1]) ++ List.replicate (2 - (lg_sl ([.int p0, .int p1])).length) Slot.unset).toArray = ls at hl ⊢
  have hl : lv_has ls 2 [(0, .int p0), (1, .int p1)] := hl
  obtain ⟨Q, hQ⟩ : ∃ Q : State → Prop, Q = MQ below (vp_Si (fun r : Int32 => r = 0 ∨ r = 1)) #[Value.int p0, Value.int p1] s 0 0 (fun _ => False) := ⟨_, rfl⟩
  rw [← hQ]
  change W p l e ({ frames := 0, cells := 0, slots := 0, locals := 0 } : Room) s m #[Value.int p0, Value.int p1] below meth c s.heap [] 0 0 Q (F0 m 0 ls [])
  refine lv_iload_n hx hb dX7_isMovable_0 rfl (lv_at hl 0 rfl) ?_
  refine lv_sipush (v := -9999) hx hb dX7_isMovable_1 (by decide) ?_
  have K_24 : ∀ (y_23 : Nat), ∀ (ls : Array Slot), y_23 ≤ 1 → lv_has ls 2 [(0, .int p0), (1, .int p1)] → W p l e ({ frames := 0, cells := 0, slots := 0, locals := 0 } : Room) s m #[Value.int p0, Value.int p1] below meth c s.heap [] 0 0 Q (F0 m 33 ls [.int (nI y_23)]) := by
    intro y_23 ls hy_23 hl
    rw [hQ]
    exact W.zret (v := nI y_23) hx hb hr (nar_nat (by omega)) (fun tt ht hW => ⟨_, rfl, nat_bool (by omega), ht⟩) (fun _ h => by cases h) dX7_isMovable_33
  refine lv_icmp_lt (tgt := 32) hx hb dX7_isMovable_4 (by decide) (fun c_1 => ?_) (fun c_1 => ?_)
  ·
    refine lv_iconst (v := 0) hx hb dX7_isMovable_32 (by decide) ?_
    exact K_24 0 ls (by omega) (lv_sub hl [0, 1] rfl)
  ·
    refine lv_iload_n hx hb dX7_isMovable_7 rfl (lv_at hl 0 rfl) ?_
    refine lv_sipush (v := 9999) hx hb dX7_isMovable_8 (by decide) ?_
    have K_36 : ∀ (y_35 : Nat), ∀ (ls : Array Slot), y_35 ≤ 1 → lv_has ls 2 [(0, .int p0), (1, .int p1)] → W p l e ({ frames := 0, cells := 0, slots := 0, locals := 0 } : Room) s m #[Value.int p0, Value.int p1] below meth c s.heap [] 0 0 Q (F0 m 33 ls [.int (nI y_35)]) := by
      intro y_35 ls hy_35 hl
      exact K_24 y_35 ls (by omega) (lv_sub hl [0, 1] rfl)
    refine lv_icmp_gt (tgt := 32) hx hb dX7_isMovable_11 (by decide) (fun c_25 => ?_) (fun c_25 => ?_)
    ·
      refine lv_iconst (v := 0) hx hb dX7_isMovable_32 (by decide) ?_
      exact K_36 0 ls (by omega) (lv_sub hl [0, 1] rfl)
    ·
      refine lv_iload_n hx hb dX7_isMovable_14 rfl (lv_at hl 1 rfl) ?_
      refine lv_sipush (v := -9999) hx hb dX7_isMovable_15 (by decide) ?_
      have K_42 : ∀ (y_41 : Nat), ∀ (ls : Array Slot), y_41 ≤ 1 → lv_has ls 2 [(0, .int p0), (1, .int p1)] → W p l e ({ frames := 0, cells := 0, slots := 0, locals := 0 } : Room) s m #[Value.int p0, Value.int p1] below meth c s.heap [] 0 0 Q (F0 m 33 ls [.int (nI y_41)]) := by
        intro y_41 ls hy_41 hl
        exact K_36 y_41 ls (by omega) (lv_sub hl [0, 1] rfl)
      refine lv_icmp_lt (tgt := 32) hx hb dX7_isMovable_18 (by decide) (fun c_37 => ?_) (fun c_37 => ?_)
      ·
        refine lv_iconst (v := 0) hx hb dX7_isMovable_32 (by decide) ?_
        exact K_42 0 ls (by omega) (lv_sub hl [0, 1] rfl)
      ·
        refine lv_iload_n hx hb dX7_isMovable_21 rfl (lv_at hl 1 rfl) ?_
        refine lv_sipush (v := 9999) hx hb dX7_isMovable_22 (by decide) ?_
        have K_45 : ∀ (y_44 : Nat), ∀ (ls : Array Slot), y_44 ≤ 1 → lv_has ls 2 [(0, .int p0), (1, .int p1)] → W p l e ({ frames := 0, cells := 0, slots := 0, locals := 0 } : Room) s m #[Value.int p0, Value.int p1] below meth c s.heap [] 0 0 Q (F0 m 33 ls [.int (nI y_44)]) := by
          intro y_44 ls hy_44 hl
          exact K_42 y_44 ls (by omega) (lv_sub hl [0, 1] rfl)
        refine lv_icmp_gt (tgt := 32) hx hb dX7_isMovable_25 (by decide) (fun c_43 => ?_) (fun c_43 => ?_)
        ·
          refine lv_iconst (v := 0) hx hb dX7_isMovable_32 (by decide) ?_
          exact K_45 0 ls (by omega) (lv_sub hl [0, 1] rfl)
        ·
          refine lv_iconst (v := 1) hx hb dX7_isMovable_28 (by decide) ?_
          refine lv_goto (tgt := 33) hx hb dX7_isMovable_29 (by decide) ?_
          exact K_45 1 ls (by omega) (lv_sub hl [0, 1] rfl)

def v_s_moveRefusal : List Cond := .code yX5_moveRefusal cX5_moveRefusal 4 (some .int) :: ([.initialized RX7, .static yX7_isMovable, .methodLink RX5 79 yX5_hasSite, .instanceMethod yX5_hasSite, .selects RX5 yX5_hasSite yX5_hasSite, .initialized RX5, .methodLink RX5 127 yX5_hasRoom, .instanceMethod yX5_hasRoom, .selects RX5 yX5_hasRoom yX5_hasRoom, .methodLink RX5 131 yX5_isFrozen, .instanceMethod yX5_isFrozen, .selects RX5 yX5_isFrozen yX5_isFrozen] ++ (v_s_hasSite ++ (v_x_isMovable ++ (v_s_hasRoom ++ (v_s_isFrozen ++ ([]))))))
theorem gw_s_moveRefusal : v_s_moveRefusal.all goodWord = true := by decide +kernel
theorem g_s_moveRefusal_s_hasSite_79 : GoodIn v_s_moveRefusal (wsV RX5 79 RX5 yX5_hasSite v_s_hasSite) := goodIn_app (goodIn_of _ (by decide +kernel)) (goodIn_sub (fun _ h => List.mem_cons_of_mem _ (List.mem_append_right _ (List.mem_append_left _ h))) gw_s_hasSite)
theorem g_s_moveRefusal_x_isMovable_124 : GoodIn v_s_moveRefusal v_x_isMovable := goodIn_sub (fun _ h => List.mem_cons_of_mem _ (List.mem_append_right _ (List.mem_append_right _ (List.mem_append_left _ h)))) gw_x_isMovable
theorem g_s_moveRefusal_s_hasRoom_127 : GoodIn v_s_moveRefusal (wsV RX5 127 RX5 yX5_hasRoom v_s_hasRoom) := goodIn_app (goodIn_of _ (by decide +kernel)) (goodIn_sub (fun _ h => List.mem_cons_of_mem _ (List.mem_append_right _ (List.mem_append_right _ (List.mem_append_right _ (List.mem_append_left _ h))))) gw_s_hasRoom)
theorem g_s_moveRefusal_s_isFrozen_131 : GoodIn v_s_moveRefusal (wsV RX5 131 RX5 yX5_isFrozen v_s_isFrozen) := goodIn_app (goodIn_of _ (by decide +kernel)) (goodIn_sub (fun _ h => List.mem_cons_of_mem _ (List.mem_append_right _ (List.mem_append_right _ (List.mem_append_right _ (List.mem_append_right _ (List.mem_append_left _ h)))))) gw_s_isFrozen)
set_option maxHeartbeats 4000000 in
set_option maxRecDepth 100000 in
theorem s_moveRefusal (l : Launch) (E : EE) (h g1 g2 g3 g4 k : Nat) (ka ko : Int32) (f : Nat → Int32) (p0 p1 p2 : Int32) (hk : f 3 = nI k) (hk8 : k ≤ 8) : Met l yX5_moveRefusal v_s_moveRefusal ({ frames := 2, cells := 0, slots := 0, locals := 45 }) (va_Pc [.ref h, .int p0, .int p1, .int p2] (pP E [(h, .inr (6, [.ref g1, .ref g2, .int ka, .int ko, .ref g3, .ref g4])), (g1, .inl (E.2.1, 81, .inl f))])) (vp_Si (fun r : Int32 => True)) 0 0 (fun _ => False) := by
  refine Met.ofW (cc := cX5_moveRefusal) (maxL := 4) (ret := (some .int)) (by decide) rfl ?_
  intro p e s m args below meth c s₁ B hml hv
  obtain ⟨rfl, ⟨hK, hN⟩, hP⟩ := hv
  have hx := B.exec
  have hb := B.bytes
  have hr := B.returns
  have hts := atoms_spec (ws := v_s_moveRefusal) B.pre
  have hown : s.vm.findClass RX5 = some m.cls := findClass_of_methodNamed B.named
  have hlocks := B.notSynchronized
  have hP : va_P E.1 vwCl [(h, .inr (6, [.ref g1, .ref g2, .int ka, .int ko, .ref g3, .ref g4])), (g1, .inl (E.2.1, 81, .inl f))] s.heap := hP
  have hl := lv_entry ([.ref h, .int p0, .int p1, .int p2]) (n := 4) (Nat.le_of_ble_eq_true rfl)
  rw [lg_entry_eq]
  generalize (lg_sl ([.ref h, .int p0, .int p1, .int p2]) ++ List.replicate (4 - (lg_sl ([.ref h, .int p0, .int p1, .int p2])).length) Slot.unset).toArray = ls at hl ⊢
  have hl : lv_has ls 4 [(0, .ref h), (1, .int p0), (2, .int p1), (3, .int p2)] := hl
  obtain ⟨Q, hQ⟩ : ∃ Q : State → Prop, Q = MQ below (vp_Si (fun r : Int32 => True)) #[Value.ref h, Value.int p0, Value.int p1, Value.int p2] s 0 0 (fun _ => False) := ⟨_, rfl⟩
  rw [← hQ]
  change W p l e ({ frames := 2, cells := 0, slots := 0, locals := 45 } : Room) s m #[Value.ref h, Value.int p0, Value.int p1, Value.int p2] below meth c s.heap [] 0 0 Q (F0 m 0 ls [])
  refine lv_aload_n hx hb dX5_moveRefusal_0 rfl (lv_at hl 0 rfl) ?_
  refine lv_iload_n hx hb dX5_moveRefusal_1 rfl (lv_at hl 1 rfl) ?_
  have hPc := hP.sub (ws' := [(h, .inr (6, [.ref g1, .ref g2, .int ka, .int ko, .ref g3, .ref g4])), (g1, .inl (E.2.1, 81, .inl f))]) [0, 1] rfl
  refine pc_i (va_runV (As := [.int p0]) (rest := []) ⟨hx, hb, hml, hown, hts⟩ (s_hasSite l E h g1 g2 g3 g4 k ka ko f p0 hk (by omega)) (cwV 1 hts g_s_moveRefusal_s_hasSite_79 rfl rfl rfl (by decide +kernel) ⟨Nat.le_of_ble_eq_true rfl, Nat.le_of_ble_eq_true rfl⟩) ⟨pP.blind, va_recv hK hPc (ci := 6) (q0 := 0) rfl rfl, (pP.pre ⟨hK, hN⟩ hPc)⟩ rfl rfl hl.1 rfl (lv_room (Nat.le_of_ble_eq_true rfl)) dX5_moveRefusal_2 ⟨Nat.le_of_ble_eq_true rfl, Nat.le_of_ble_eq_true rfl⟩) (fun r_1 hr_1 => ?_)
  refine lv_if_ne (tgt := 10) hx hb dX5_moveRefusal_5 (by decide) (fun c_2 => ?_) (fun c_2 => ?_)
  ·
    refine lv_iload_n hx hb dX5_moveRefusal_10 rfl (lv_at hl 2 rfl) ?_
    refine lv_iload_n hx hb dX5_moveRefusal_11 rfl (lv_at hl 3 rfl) ?_
    have hPc : va_P E.1 vwCl [] s.heap := fun k q h => by simp at h
    refine pc_i (va_runSN (As := [.int p1, .int p2]) (rest := []) ⟨hx, hb, hml, hown, hts⟩ (x_isMovable l E p1 p2) ⟨va_cnB 2 hts g_s_moveRefusal_x_isMovable_124 rfl rfl rfl (hN _ (List.mem_of_getElem? (i := 26) rfl)) (hts (.initialized RX7) (List.mem_of_getElem? (i := 1) rfl)) (by decide +kernel) ⟨Nat.le_of_ble_eq_true rfl, Nat.le_of_ble_eq_true rfl⟩, (hts (.static yX7_isMovable) (List.mem_of_getElem? (i := 2) rfl)), trivial⟩ ⟨pP.blind, (pP.pre ⟨hK, hN⟩ hPc)⟩ rfl rfl hl.1 rfl (lv_room (Nat.le_of_ble_eq_true rfl)) dX5_moveRefusal_12 ⟨Nat.le_of_ble_eq_true rfl, Nat.le_of_ble_eq_true rfl⟩) (fun r_3 hr_3 => ?_)
    refine lv_if_eq (tgt := 28) hx hb dX5_moveRefusal_15 (by decide) (fun c_4 => ?_) (fun c_4 => ?_)
    ·
      obtain ⟨j_5, hj_5, ej_5⟩ : ∃ j : Nat, j ≤ 0 ∧ r_3 = nI j := nat_rng (by have t0 : (0 : Int32).toInt = 0 := (by decide); simp only [Int32.lt_iff_toInt_lt, Int32.le_iff_toInt_le, ge_iff_le, gt_iff_lt, ne_eq, ← Int32.toInt_inj, t0] at c_4 ⊢; omega)
      refine lv_iconst (v := 1) hx hb dX5_moveRefusal_28 (by decide) ?_
      rw [hQ]
      exact W.iret (v := 1) hx hb hr (fun tt ht hW => ⟨_, rfl, trivial, ht⟩) (fun _ h => by cases h) dX5_moveRefusal_29
    ·
      refine lv_aload_n hx hb dX5_moveRefusal_18 rfl (lv_at hl 0 rfl) ?_
      refine lv_iload_n hx hb dX5_moveRefusal_19 rfl (lv_at hl 1 rfl) ?_
      refine lv_iload_n hx hb dX5_moveRefusal_20 rfl (lv_at hl 2 rfl) ?_
      refine lv_iload_n hx hb dX5_moveRefusal_21 rfl (lv_at hl 3 rfl) ?_
      have hPc := hP.sub (ws' := [(h, .inr (6, [.ref g1, .ref g2, .int ka, .int ko, .ref g3, .ref g4])), (g1, .inl (E.2.1, 81, .inl f))]) [0, 1] rfl
      refine pc_i (va_runV (As := [.int p0, .int p1, .int p2]) (rest := []) ⟨hx, hb, hml, hown, hts⟩ (s_hasRoom l E h g1 g2 g3 g4 k ka ko f p0 p1 p2 hk (by omega)) (cwV 3 hts g_s_moveRefusal_s_hasRoom_127 rfl rfl rfl (by decide +kernel) ⟨Nat.le_of_ble_eq_true rfl, Nat.le_of_ble_eq_true rfl⟩) ⟨pP.blind, va_recv hK hPc (ci := 6) (q0 := 0) rfl rfl, (pP.pre ⟨hK, hN⟩ hPc)⟩ rfl rfl hl.1 rfl (lv_room (Nat.le_of_ble_eq_true rfl)) dX5_moveRefusal_22 ⟨Nat.le_of_ble_eq_true rfl, Nat.le_of_ble_eq_true rfl⟩) (fun r_6 hr_6 => ?_)
      refine lv_if_ne (tgt := 30) hx hb dX5_moveRefusal_25 (by decide) (fun c_7 => ?_) (fun c_7 => ?_)
      ·
        refine lv_iload_n hx hb dX5_moveRefusal_30 rfl (lv_at hl 2 rfl) ?_
        have K_34 : ∀ (y_33 : Int32), ∀ (ls : Array Slot), lv_has ls 4 [(0, .ref h), (1, .int p0), (2, .int p1), (3, .int p2)] → W p l e ({ frames := 2, cells := 0, slots := 0, locals := 45 } : Room) s m #[Value.ref h, Value.int p0, Value.int p1, Value.int p2] below meth c s.heap [] 0 0 Q (F0 m 51 ls [.int y_33]) := by
          intro y_33 ls hl
          rw [hQ]
          exact W.iret (v := y_33) hx hb hr (fun tt ht hW => ⟨_, rfl, trivial, ht⟩) (fun _ h => by cases h) dX5_moveRefusal_51
        refine lv_if_ne (tgt := 38) hx hb dX5_moveRefusal_31 (by decide) (fun c_8 => ?_) (fun c_8 => ?_)
        ·
          refine lv_aload_n hx hb dX5_moveRefusal_38 rfl (lv_at hl 0 rfl) ?_
          refine lv_iload_n hx hb dX5_moveRefusal_39 rfl (lv_at hl 1 rfl) ?_
          have hPc := hP.sub (ws' := [(h, .inr (6, [.ref g1, .ref g2, .int ka, .int ko, .ref g3, .ref g4])), (g1, .inl (E.2.1, 81, .inl f))]) [0, 1] rfl
          refine pc_i (va_runV (As := [.int p0]) (rest := []) ⟨hx, hb, hml, hown, hts⟩ (s_isFrozen l E h g1 g2 g3 g4 k ka ko f p0 hk (by omega)) (cwV 1 hts g_s_moveRefusal_s_isFrozen_131 rfl rfl rfl (by decide +kernel) ⟨Nat.le_of_ble_eq_true rfl, Nat.le_of_ble_eq_true rfl⟩) ⟨pP.blind, va_recv hK hPc (ci := 6) (q0 := 0) rfl rfl, (pP.pre ⟨hK, hN⟩ hPc)⟩ rfl rfl hl.1 rfl (lv_room (Nat.le_of_ble_eq_true rfl)) dX5_moveRefusal_40 ⟨Nat.le_of_ble_eq_true rfl, Nat.le_of_ble_eq_true rfl⟩) (fun r_35 hr_35 => ?_)
          have K_39 : ∀ (y_38 : Int32), ∀ (ls : Array Slot), lv_has ls 4 [(0, .ref h), (1, .int p0), (2, .int p1), (3, .int p2)] → W p l e ({ frames := 2, cells := 0, slots := 0, locals := 45 } : Room) s m #[Value.ref h, Value.int p0, Value.int p1, Value.int p2] below meth c s.heap [] 0 0 Q (F0 m 51 ls [.int y_38]) := by
            intro y_38 ls hl
            exact K_34 y_38 ls  (lv_sub hl [0, 1, 2, 3] rfl)
          refine lv_if_eq (tgt := 50) hx hb dX5_moveRefusal_43 (by decide) (fun c_36 => ?_) (fun c_36 => ?_)
          ·
            obtain ⟨j_40, hj_40, ej_40⟩ : ∃ j : Nat, j ≤ 0 ∧ r_35 = nI j := nat_rng (by have t0 : (0 : Int32).toInt = 0 := (by decide); simp only [Int32.lt_iff_toInt_lt, Int32.le_iff_toInt_le, ge_iff_le, gt_iff_lt, ne_eq, ← Int32.toInt_inj, t0] at c_36 ⊢; omega)
            refine lv_iconst (v := -1) hx hb dX5_moveRefusal_50 (by decide) ?_
            exact K_39 (-1) ls  (lv_sub hl [0, 1, 2, 3] rfl)
          ·
            refine lv_iconst (v := 2) hx hb dX5_moveRefusal_46 (by decide) ?_
            refine lv_goto (tgt := 51) hx hb dX5_moveRefusal_47 (by decide) ?_
            exact K_39 2 ls  (lv_sub hl [0, 1, 2, 3] rfl)
        ·
          obtain ⟨j_41, hj_41, ej_41⟩ : ∃ j : Nat, j ≤ 0 ∧ p1 = nI j := nat_rng (by have t0 : (0 : Int32).toInt = 0 := (by decide); simp only [Int32.lt_iff_toInt_lt, Int32.le_iff_toInt_le, ge_iff_le, gt_iff_lt, ne_eq, ← Int32.toInt_inj, t0] at c_8 ⊢; omega)
          refine lv_iload_n hx hb dX5_moveRefusal_34 rfl (lv_at hl 3 rfl) ?_
          have K_51 : ∀ (y_50 : Int32), ∀ (ls : Array Slot), lv_has ls 4 [(0, .ref h), (1, .int p0), (2, .int p1), (3, .int p2)] → W p l e ({ frames := 2, cells := 0, slots := 0, locals := 45 } : Room) s m #[Value.ref h, Value.int p0, Value.int p1, Value.int p2] below meth c s.heap [] 0 0 Q (F0 m 51 ls [.int y_50]) := by
            intro y_50 ls hl
            exact K_34 y_50 ls  (lv_sub hl [0, 1, 2, 3] rfl)
          refine lv_if_eq (tgt := 46) hx hb dX5_moveRefusal_35 (by decide) (fun c_42 => ?_) (fun c_42 => ?_)
          ·
            obtain ⟨j_52, hj_52, ej_52⟩ : ∃ j : Nat, j ≤ 0 ∧ p2 = nI j := nat_rng (by have t0 : (0 : Int32).toInt = 0 := (by decide); simp only [Int32.lt_iff_toInt_lt, Int32.le_iff_toInt_le, ge_iff_le, gt_iff_lt, ne_eq, ← Int32.toInt_inj, t0] at c_42 ⊢; omega)
            refine lv_iconst (v := 2) hx hb dX5_moveRefusal_46 (by decide) ?_
            refine lv_goto (tgt := 51) hx hb dX5_moveRefusal_47 (by decide) ?_
            exact K_51 2 ls  (lv_sub hl [0, 1, 2, 3] rfl)
          ·
            refine lv_aload_n hx hb dX5_moveRefusal_38 rfl (lv_at hl 0 rfl) ?_
            refine lv_iload_n hx hb dX5_moveRefusal_39 rfl (lv_at hl 1 rfl) ?_
            have hPc := hP.sub (ws' := [(h, .inr (6, [.ref g1, .ref g2, .int ka, .int ko, .ref g3, .ref g4])), (g1, .inl (E.2.1, 81, .inl f))]) [0, 1] rfl
            refine pc_i (va_runV (As := [.int p0]) (rest := []) ⟨hx, hb, hml, hown, hts⟩ (s_isFrozen l E h g1 g2 g3 g4 k ka ko f p0 hk (by omega)) (cwV 1 hts g_s_moveRefusal_s_isFrozen_131 rfl rfl rfl (by decide +kernel) ⟨Nat.le_of_ble_eq_true rfl, Nat.le_of_ble_eq_true rfl⟩) ⟨pP.blind, va_recv hK hPc (ci := 6) (q0 := 0) rfl rfl, (pP.pre ⟨hK, hN⟩ hPc)⟩ rfl rfl hl.1 rfl (lv_room (Nat.le_of_ble_eq_true rfl)) dX5_moveRefusal_40 ⟨Nat.le_of_ble_eq_true rfl, Nat.le_of_ble_eq_true rfl⟩) (fun r_53 hr_53 => ?_)
            have K_57 : ∀ (y_56 : Int32), ∀ (ls : Array Slot), lv_has ls 4 [(0, .ref h), (1, .int p0), (2, .int p1), (3, .int p2)] → W p l e ({ frames := 2, cells := 0, slots := 0, locals := 45 } : Room) s m #[Value.ref h, Value.int p0, Value.int p1, Value.int p2] below meth c s.heap [] 0 0 Q (F0 m 51 ls [.int y_56]) := by
              intro y_56 ls hl
              exact K_51 y_56 ls  (lv_sub hl [0, 1, 2, 3] rfl)
            refine lv_if_eq (tgt := 50) hx hb dX5_moveRefusal_43 (by decide) (fun c_54 => ?_) (fun c_54 => ?_)
            ·
              obtain ⟨j_58, hj_58, ej_58⟩ : ∃ j : Nat, j ≤ 0 ∧ r_53 = nI j := nat_rng (by have t0 : (0 : Int32).toInt = 0 := (by decide); simp only [Int32.lt_iff_toInt_lt, Int32.le_iff_toInt_le, ge_iff_le, gt_iff_lt, ne_eq, ← Int32.toInt_inj, t0] at c_54 ⊢; omega)
              refine lv_iconst (v := -1) hx hb dX5_moveRefusal_50 (by decide) ?_
              exact K_57 (-1) ls  (lv_sub hl [0, 1, 2, 3] rfl)
            ·
              refine lv_iconst (v := 2) hx hb dX5_moveRefusal_46 (by decide) ?_
              refine lv_goto (tgt := 51) hx hb dX5_moveRefusal_47 (by decide) ?_
              exact K_57 2 ls  (lv_sub hl [0, 1, 2, 3] rfl)
      ·
        obtain ⟨j_59, hj_59, ej_59⟩ : ∃ j : Nat, j ≤ 0 ∧ r_6 = nI j := nat_rng (by have t0 : (0 : Int32).toInt = 0 := (by decide); simp only [Int32.lt_iff_toInt_lt, Int32.le_iff_toInt_le, ge_iff_le, gt_iff_lt, ne_eq, ← Int32.toInt_inj, t0] at c_7 ⊢; omega)
        refine lv_iconst (v := 1) hx hb dX5_moveRefusal_28 (by decide) ?_
        rw [hQ]
        exact W.iret (v := 1) hx hb hr (fun tt ht hW => ⟨_, rfl, trivial, ht⟩) (fun _ h => by cases h) dX5_moveRefusal_29
  ·
    obtain ⟨j_60, hj_60, ej_60⟩ : ∃ j : Nat, j ≤ 0 ∧ r_1 = nI j := nat_rng (by have t0 : (0 : Int32).toInt = 0 := (by decide); simp only [Int32.lt_iff_toInt_lt, Int32.le_iff_toInt_le, ge_iff_le, gt_iff_lt, ne_eq, ← Int32.toInt_inj, t0] at c_2 ⊢; omega)
    refine lv_iconst (v := 0) hx hb dX5_moveRefusal_8 (by decide) ?_
    rw [hQ]
    exact W.iret (v := 0) hx hb hr (fun tt ht hW => ⟨_, rfl, trivial, ht⟩) (fun _ h => by cases h) dX5_moveRefusal_9

def v_s_addRefusal : List Cond := .code yX5_addRefusal cX5_addRefusal 3 (some .int) :: ([.constant RX5 98 (99999), .methodLink RX5 79 yX5_hasSite, .instanceMethod yX5_hasSite, .selects RX5 yX5_hasSite yX5_hasSite, .initialized RX5, .methodLink RX5 69 yX5_of, .instanceMethod yX5_of, .selects RX5 yX5_of yX5_of, .methodLink RX5 134 yX5_isReached, .instanceMethod yX5_isReached, .selects RX5 yX5_isReached yX5_isReached] ++ (v_s_hasSite ++ (v_s_of ++ (v_s_isReached ++ ([])))))
theorem gw_s_addRefusal : v_s_addRefusal.all goodWord = true := by decide +kernel
theorem g_s_addRefusal_s_hasSite_79 : GoodIn v_s_addRefusal (wsV RX5 79 RX5 yX5_hasSite v_s_hasSite) := goodIn_app (goodIn_of _ (by decide +kernel)) (goodIn_sub (fun _ h => List.mem_cons_of_mem _ (List.mem_append_right _ (List.mem_append_left _ h))) gw_s_hasSite)
theorem g_s_addRefusal_s_of_69 : GoodIn v_s_addRefusal (wsV RX5 69 RX5 yX5_of v_s_of) := goodIn_app (goodIn_of _ (by decide +kernel)) (goodIn_sub (fun _ h => List.mem_cons_of_mem _ (List.mem_append_right _ (List.mem_append_right _ (List.mem_append_left _ h)))) gw_s_of)
theorem g_s_addRefusal_s_isReached_134 : GoodIn v_s_addRefusal (wsV RX5 134 RX5 yX5_isReached v_s_isReached) := goodIn_app (goodIn_of _ (by decide +kernel)) (goodIn_sub (fun _ h => List.mem_cons_of_mem _ (List.mem_append_right _ (List.mem_append_right _ (List.mem_append_right _ (List.mem_append_left _ h))))) gw_s_isReached)
set_option maxHeartbeats 4000000 in
set_option maxRecDepth 100000 in
theorem s_addRefusal (l : Launch) (E : EE) (h g1 g2 g3 g4 k : Nat) (ka ko : Int32) (f : Nat → Int32) (p0 p1 : Int32) (hk : f 3 = nI k) (hk8 : k ≤ 8) : Met l yX5_addRefusal v_s_addRefusal ({ frames := 1, cells := 0, slots := 0, locals := 22 }) (va_Pc [.ref h, .int p0, .int p1] (pP E [(h, .inr (6, [.ref g1, .ref g2, .int ka, .int ko, .ref g3, .ref g4])), (g1, .inl (E.2.1, 81, .inl f))])) (vp_Si (fun r : Int32 => True)) 0 0 (fun _ => False) := by
  refine Met.ofW (cc := cX5_addRefusal) (maxL := 3) (ret := (some .int)) (by decide) rfl ?_
  intro p e s m args below meth c s₁ B hml hv
  obtain ⟨rfl, ⟨hK, hN⟩, hP⟩ := hv
  have hx := B.exec
  have hb := B.bytes
  have hr := B.returns
  have hts := atoms_spec (ws := v_s_addRefusal) B.pre
  have hown : s.vm.findClass RX5 = some m.cls := findClass_of_methodNamed B.named
  have hlocks := B.notSynchronized
  have hP : va_P E.1 vwCl [(h, .inr (6, [.ref g1, .ref g2, .int ka, .int ko, .ref g3, .ref g4])), (g1, .inl (E.2.1, 81, .inl f))] s.heap := hP
  have hl := lv_entry ([.ref h, .int p0, .int p1]) (n := 3) (Nat.le_of_ble_eq_true rfl)
  rw [lg_entry_eq]
  generalize (lg_sl ([.ref h, .int p0, .int p1]) ++ List.replicate (3 - (lg_sl ([.ref h, .int p0, .int p1])).length) Slot.unset).toArray = ls at hl ⊢
  have hl : lv_has ls 3 [(0, .ref h), (1, .int p0), (2, .int p1)] := hl
  obtain ⟨Q, hQ⟩ : ∃ Q : State → Prop, Q = MQ below (vp_Si (fun r : Int32 => True)) #[Value.ref h, Value.int p0, Value.int p1] s 0 0 (fun _ => False) := ⟨_, rfl⟩
  rw [← hQ]
  change W p l e ({ frames := 1, cells := 0, slots := 0, locals := 22 } : Room) s m #[Value.ref h, Value.int p0, Value.int p1] below meth c s.heap [] 0 0 Q (F0 m 0 ls [])
  refine lv_aload_n hx hb dX5_addRefusal_0 rfl (lv_at hl 0 rfl) ?_
  refine lv_iload_n hx hb dX5_addRefusal_1 rfl (lv_at hl 1 rfl) ?_
  have hPc := hP.sub (ws' := [(h, .inr (6, [.ref g1, .ref g2, .int ka, .int ko, .ref g3, .ref g4])), (g1, .inl (E.2.1, 81, .inl f))]) [0, 1] rfl
  refine pc_i (va_runV (As := [.int p0]) (rest := []) ⟨hx, hb, hml, hown, hts⟩ (s_hasSite l E h g1 g2 g3 g4 k ka ko f p0 hk (by omega)) (cwV 1 hts g_s_addRefusal_s_hasSite_79 rfl rfl rfl (by decide +kernel) ⟨Nat.le_of_ble_eq_true rfl, Nat.le_of_ble_eq_true rfl⟩) ⟨pP.blind, va_recv hK hPc (ci := 6) (q0 := 0) rfl rfl, (pP.pre ⟨hK, hN⟩ hPc)⟩ rfl rfl hl.1 rfl (lv_room (Nat.le_of_ble_eq_true rfl)) dX5_addRefusal_2 ⟨Nat.le_of_ble_eq_true rfl, Nat.le_of_ble_eq_true rfl⟩) (fun r_1 hr_1 => ?_)
  refine lv_if_ne (tgt := 10) hx hb dX5_addRefusal_5 (by decide) (fun c_2 => ?_) (fun c_2 => ?_)
  ·
    refine lv_iload_n hx hb dX5_addRefusal_10 rfl (lv_at hl 2 rfl) ?_
    refine lv_iconst (v := 1) hx hb dX5_addRefusal_11 (by decide) ?_
    refine lv_icmp_lt (tgt := 36) hx hb dX5_addRefusal_12 (by decide) (fun c_3 => ?_) (fun c_3 => ?_)
    ·
      refine lv_iconst (v := 1) hx hb dX5_addRefusal_36 (by decide) ?_
      rw [hQ]
      exact W.iret (v := 1) hx hb hr (fun tt ht hW => ⟨_, rfl, trivial, ht⟩) (fun _ h => by cases h) dX5_addRefusal_37
    ·
      refine lv_iload_n hx hb dX5_addRefusal_15 rfl (lv_at hl 2 rfl) ?_
      refine lv_sipush (v := 999) hx hb dX5_addRefusal_16 (by decide) ?_
      refine lv_icmp_gt (tgt := 36) hx hb dX5_addRefusal_19 (by decide) (fun c_4 => ?_) (fun c_4 => ?_)
      ·
        refine lv_iconst (v := 1) hx hb dX5_addRefusal_36 (by decide) ?_
        rw [hQ]
        exact W.iret (v := 1) hx hb hr (fun tt ht hW => ⟨_, rfl, trivial, ht⟩) (fun _ h => by cases h) dX5_addRefusal_37
      ·
        obtain ⟨j_5, hj_5, ej_5⟩ : ∃ j : Nat, j ≤ 999 ∧ p1 = nI j := nat_rng (by have t0 : (0 : Int32).toInt = 0 := (by decide); have t1 : (1 : Int32).toInt = 1 := (by decide); have t2 : (999 : Int32).toInt = 999 := (by decide); simp only [Int32.lt_iff_toInt_lt, Int32.le_iff_toInt_le, ge_iff_le, gt_iff_lt, ne_eq, ← Int32.toInt_inj, t0, t1, t2] at c_3 c_4 ⊢; omega)
        refine lv_aload_n hx hb dX5_addRefusal_22 rfl (lv_at hl 0 rfl) ?_
        refine lv_iload_n hx hb dX5_addRefusal_23 rfl (lv_at hl 1 rfl) ?_
        refine lv_bipush (v := 6) hx hb dX5_addRefusal_24 (by decide) ?_
        have hPc := hP.sub (ws' := [(h, .inr (6, [.ref g1, .ref g2, .int ka, .int ko, .ref g3, .ref g4])), (g1, .inl (E.2.1, 81, .inl f))]) [0, 1] rfl
        refine pc_i (va_runV (As := [.int p0, .int 6]) (rest := []) ⟨hx, hb, hml, hown, hts⟩ (s_of l E h g1 g2 g3 g4 k ka ko f p0 6 hk (by omega)) (cwV 2 hts g_s_addRefusal_s_of_69 rfl rfl rfl (by decide +kernel) ⟨Nat.le_of_ble_eq_true rfl, Nat.le_of_ble_eq_true rfl⟩) ⟨pP.blind, va_recv hK hPc (ci := 6) (q0 := 0) rfl rfl, (pP.pre ⟨hK, hN⟩ hPc)⟩ rfl rfl hl.1 rfl (lv_room (Nat.le_of_ble_eq_true rfl)) dX5_addRefusal_26 ⟨Nat.le_of_ble_eq_true rfl, Nat.le_of_ble_eq_true rfl⟩) (fun r_6 hr_6 => ?_)
        refine lv_iload_n hx hb dX5_addRefusal_29 rfl (lv_at hl 2 rfl) ?_
        refine W.eq (g2 := F0 m 30 ls [.int (nI j_5), .int r_6]) (by rw [ej_5]) ?_
        refine lv_iadd hx hb dX5_addRefusal_30 ?_
        refine lv_topi (fun z_7 ez_7 => ?_)
        refine lv_ldc (v := 99999) hx hb hown (hts (.constant RX5 98 (99999)) (List.mem_of_getElem? (i := 1) rfl)) dX5_addRefusal_31 ?_
        refine lv_icmp_le (tgt := 38) hx hb dX5_addRefusal_33 (by decide) (fun c_8 => ?_) (fun c_8 => ?_)
        ·
          refine lv_aload_n hx hb dX5_addRefusal_38 rfl (lv_at hl 0 rfl) ?_
          have hPc := hP.sub (ws' := [(h, .inr (6, [.ref g1, .ref g2, .int ka, .int ko, .ref g3, .ref g4])), (g1, .inl (E.2.1, 81, .inl f))]) [0, 1] rfl
          refine pc_i (va_runV (As := []) (rest := []) ⟨hx, hb, hml, hown, hts⟩ (s_isReached l E h g1 g2 g3 g4 k ka ko f hk (by omega)) (cwV 0 hts g_s_addRefusal_s_isReached_134 rfl rfl rfl (by decide +kernel) ⟨Nat.le_of_ble_eq_true rfl, Nat.le_of_ble_eq_true rfl⟩) ⟨pP.blind, va_recv hK hPc (ci := 6) (q0 := 0) rfl rfl, (pP.pre ⟨hK, hN⟩ hPc)⟩ rfl rfl hl.1 rfl (lv_room (Nat.le_of_ble_eq_true rfl)) dX5_addRefusal_39 ⟨Nat.le_of_ble_eq_true rfl, Nat.le_of_ble_eq_true rfl⟩) (fun r_9 hr_9 => ?_)
          have K_13 : ∀ (y_12 : Int32), ∀ (ls : Array Slot), lv_has ls 3 [(0, .ref h), (1, .int p0), (2, .int p1)] → W p l e ({ frames := 1, cells := 0, slots := 0, locals := 22 } : Room) s m #[Value.ref h, Value.int p0, Value.int p1] below meth c s.heap [] 0 0 Q (F0 m 50 ls [.int y_12]) := by
            intro y_12 ls hl
            rw [hQ]
            exact W.iret (v := y_12) hx hb hr (fun tt ht hW => ⟨_, rfl, trivial, ht⟩) (fun _ h => by cases h) dX5_addRefusal_50
          refine lv_if_eq (tgt := 49) hx hb dX5_addRefusal_42 (by decide) (fun c_10 => ?_) (fun c_10 => ?_)
          ·
            obtain ⟨j_14, hj_14, ej_14⟩ : ∃ j : Nat, j ≤ 0 ∧ r_9 = nI j := nat_rng (by have t0 : (0 : Int32).toInt = 0 := (by decide); simp only [Int32.lt_iff_toInt_lt, Int32.le_iff_toInt_le, ge_iff_le, gt_iff_lt, ne_eq, ← Int32.toInt_inj, t0] at c_10 ⊢; omega)
            refine lv_iconst (v := -1) hx hb dX5_addRefusal_49 (by decide) ?_
            exact K_13 (-1) ls  (lv_sub hl [0, 1, 2] rfl)
          ·
            refine lv_iconst (v := 2) hx hb dX5_addRefusal_45 (by decide) ?_
            refine lv_goto (tgt := 50) hx hb dX5_addRefusal_46 (by decide) ?_
            exact K_13 2 ls  (lv_sub hl [0, 1, 2] rfl)
        ·
          refine lv_iconst (v := 1) hx hb dX5_addRefusal_36 (by decide) ?_
          rw [hQ]
          exact W.iret (v := 1) hx hb hr (fun tt ht hW => ⟨_, rfl, trivial, ht⟩) (fun _ h => by cases h) dX5_addRefusal_37
  ·
    obtain ⟨j_15, hj_15, ej_15⟩ : ∃ j : Nat, j ≤ 0 ∧ r_1 = nI j := nat_rng (by have t0 : (0 : Int32).toInt = 0 := (by decide); simp only [Int32.lt_iff_toInt_lt, Int32.le_iff_toInt_le, ge_iff_le, gt_iff_lt, ne_eq, ← Int32.toInt_inj, t0] at c_2 ⊢; omega)
    refine lv_iconst (v := 0) hx hb dX5_addRefusal_8 (by decide) ?_
    rw [hQ]
    exact W.iret (v := 0) hx hb hr (fun tt ht hW => ⟨_, rfl, trivial, ht⟩) (fun _ h => by cases h) dX5_addRefusal_9

def v_s_freezeRefusal : List Cond := .code yX5_freezeRefusal cX5_freezeRefusal 3 (some .int) :: ([.fieldLink RX5 11 "HushWatch$State" "row" "[I", .methodLink RX5 79 yX5_hasSite, .instanceMethod yX5_hasSite, .selects RX5 yX5_hasSite yX5_hasSite, .initialized RX5, .methodLink RX5 131 yX5_isFrozen, .instanceMethod yX5_isFrozen, .selects RX5 yX5_isFrozen yX5_isFrozen] ++ (v_s_hasSite ++ (wsX50 ++ (v_s_isFrozen ++ ([])))))
theorem gw_s_freezeRefusal : v_s_freezeRefusal.all goodWord = true := by decide +kernel
theorem i_s_freezeRefusal_X5 : ∀ w ∈ wsX50, w ∈ v_s_freezeRefusal := fun _ h => List.mem_cons_of_mem _ (List.mem_append_right _ (List.mem_append_right _ (List.mem_append_left _ h)))
theorem g_s_freezeRefusal_s_hasSite_79 : GoodIn v_s_freezeRefusal (wsV RX5 79 RX5 yX5_hasSite v_s_hasSite) := goodIn_app (goodIn_of _ (by decide +kernel)) (goodIn_sub (fun _ h => List.mem_cons_of_mem _ (List.mem_append_right _ (List.mem_append_left _ h))) gw_s_hasSite)
theorem g_s_freezeRefusal_s_isFrozen_131 : GoodIn v_s_freezeRefusal (wsV RX5 131 RX5 yX5_isFrozen v_s_isFrozen) := goodIn_app (goodIn_of _ (by decide +kernel)) (goodIn_sub (fun _ h => List.mem_cons_of_mem _ (List.mem_append_right _ (List.mem_append_right _ (List.mem_append_right _ (List.mem_append_left _ h))))) gw_s_isFrozen)
set_option maxHeartbeats 4000000 in
set_option maxRecDepth 100000 in
theorem s_freezeRefusal (l : Launch) (E : EE) (h g1 g2 g3 g4 k : Nat) (ka ko : Int32) (f : Nat → Int32) (p0 : Int32) (hk : f 3 = nI k) (hk8 : k ≤ 8) : Met l yX5_freezeRefusal v_s_freezeRefusal ({ frames := 2, cells := 0, slots := 0, locals := 42 }) (va_Pc [.ref h, .int p0] (pP E [(h, .inr (6, [.ref g1, .ref g2, .int ka, .int ko, .ref g3, .ref g4])), (g1, .inl (E.2.1, 81, .inl f))])) (vp_Si (fun r : Int32 => True)) 0 0 (fun _ => False) := by
  refine Met.ofW (cc := cX5_freezeRefusal) (maxL := 3) (ret := (some .int)) (by decide) rfl ?_
  intro p e s m args below meth c s₁ B hml hv
  obtain ⟨rfl, ⟨hK, hN⟩, hP⟩ := hv
  have hx := B.exec
  have hb := B.bytes
  have hr := B.returns
  have hts := atoms_spec (ws := v_s_freezeRefusal) B.pre
  have hown : s.vm.findClass RX5 = some m.cls := findClass_of_methodNamed B.named
  have hlocks := B.notSynchronized
  have hP : va_P E.1 vwCl [(h, .inr (6, [.ref g1, .ref g2, .int ka, .int ko, .ref g3, .ref g4])), (g1, .inl (E.2.1, 81, .inl f))] s.heap := hP
  have hl := lv_entry ([.ref h, .int p0]) (n := 3) (Nat.le_of_ble_eq_true rfl)
  rw [lg_entry_eq]
  generalize (lg_sl ([.ref h, .int p0]) ++ List.replicate (3 - (lg_sl ([.ref h, .int p0])).length) Slot.unset).toArray = ls at hl ⊢
  have hl : lv_has ls 3 [(0, .ref h), (1, .int p0)] := hl
  obtain ⟨Q, hQ⟩ : ∃ Q : State → Prop, Q = MQ below (vp_Si (fun r : Int32 => True)) #[Value.ref h, Value.int p0] s 0 0 (fun _ => False) := ⟨_, rfl⟩
  rw [← hQ]
  change W p l e ({ frames := 2, cells := 0, slots := 0, locals := 42 } : Room) s m #[Value.ref h, Value.int p0] below meth c s.heap [] 0 0 Q (F0 m 0 ls [])
  refine lv_aload_n hx hb dX5_freezeRefusal_0 rfl (lv_at hl 0 rfl) ?_
  refine lv_iload_n hx hb dX5_freezeRefusal_1 rfl (lv_at hl 1 rfl) ?_
  have hPc := hP.sub (ws' := [(h, .inr (6, [.ref g1, .ref g2, .int ka, .int ko, .ref g3, .ref g4])), (g1, .inl (E.2.1, 81, .inl f))]) [0, 1] rfl
  refine pc_i (va_runV (As := [.int p0]) (rest := []) ⟨hx, hb, hml, hown, hts⟩ (s_hasSite l E h g1 g2 g3 g4 k ka ko f p0 hk (by omega)) (cwV 1 hts g_s_freezeRefusal_s_hasSite_79 rfl rfl rfl (by decide +kernel) ⟨Nat.le_of_ble_eq_true rfl, Nat.le_of_ble_eq_true rfl⟩) ⟨pP.blind, va_recv hK hPc (ci := 6) (q0 := 0) rfl rfl, (pP.pre ⟨hK, hN⟩ hPc)⟩ rfl rfl hl.1 rfl (lv_room (Nat.le_of_ble_eq_true rfl)) dX5_freezeRefusal_2 ⟨Nat.le_of_ble_eq_true rfl, Nat.le_of_ble_eq_true rfl⟩) (fun r_1 hr_1 => ?_)
  refine lv_if_ne (tgt := 10) hx hb dX5_freezeRefusal_5 (by decide) (fun c_2 => ?_) (fun c_2 => ?_)
  ·
    refine lv_iconst (v := 1) hx hb dX5_freezeRefusal_10 (by decide) ?_
    refine lv_aload_n hx hb dX5_freezeRefusal_11 rfl (lv_at hl 0 rfl) ?_
    refine va_get (D := E.1) (ci := 6) (v := .ref g1) (C := RX5) (T := TX5) (N := 6) hx hb hts i_s_freezeRefusal_X5 hown hK hP 0 rfl rfl 0 (by decide) (hts (.fieldLink RX5 11 "HushWatch$State" "row" "[I") (List.mem_of_getElem? (i := 1) rfl)) (fun _ h9 => h9) rfl dX5_freezeRefusal_12 ?_
    refine lv_iconst (v := 3) hx hb dX5_freezeRefusal_15 (by decide) ?_
    refine va_iald hx hb hK hP 1 0 rfl rfl (vin rfl) dX5_freezeRefusal_16 ?_
    refine W.eq (g2 := F0 m 17 ls [.int (f 3), .int 1]) rfl ?_
    refine W.eq (g2 := F0 m 17 ls [.int (nI k), .int 1]) (by rw [hk]) ?_
    refine lv_ishl hx hb dX5_freezeRefusal_17 ?_
    refine lv_topi (fun z_3 ez_3 => ?_)
    refine lv_iconst (v := 1) hx hb dX5_freezeRefusal_18 (by decide) ?_
    refine lv_isub hx hb dX5_freezeRefusal_19 ?_
    refine lv_topi (fun z_4 ez_4 => ?_)
    refine lv_istore_n (lv' := [(2, .int z_4), (0, .ref h), (1, .int p0)]) hx hb dX5_freezeRefusal_20 rfl hl (by decide) rfl (fun ls hl => ?_)
    refine lv_aload_n hx hb dX5_freezeRefusal_21 rfl (lv_at hl 1 rfl) ?_
    refine va_get (D := E.1) (ci := 6) (v := .ref g1) (C := RX5) (T := TX5) (N := 6) hx hb hts i_s_freezeRefusal_X5 hown hK hP 0 rfl rfl 0 (by decide) (hts (.fieldLink RX5 11 "HushWatch$State" "row" "[I") (List.mem_of_getElem? (i := 1) rfl)) (fun _ h9 => h9) rfl dX5_freezeRefusal_22 ?_
    refine lv_bipush (v := 7) hx hb dX5_freezeRefusal_25 (by decide) ?_
    refine va_iald hx hb hK hP 1 0 rfl rfl (vin rfl) dX5_freezeRefusal_27 ?_
    refine W.eq (g2 := F0 m 28 ls [.int (f 7)]) rfl ?_
    refine lv_topi (fun z_5 ez_5 => ?_)
    refine lv_iconst (v := 1) hx hb dX5_freezeRefusal_28 (by decide) ?_
    refine lv_iload_n hx hb dX5_freezeRefusal_29 rfl (lv_at hl 2 rfl) ?_
    refine lv_ishl hx hb dX5_freezeRefusal_30 ?_
    refine lv_topi (fun z_6 ez_6 => ?_)
    refine lv_ior hx hb dX5_freezeRefusal_31 ?_
    refine lv_topi (fun z_7 ez_7 => ?_)
    refine lv_iload_n hx hb dX5_freezeRefusal_32 rfl (lv_at hl 0 rfl) ?_
    have K_16 : ∀ (y_15 : Int32), ∀ (ls : Array Slot), lv_has ls 3 [(0, .ref h), (1, .int p0), (2, .int z_4)] → W p l e ({ frames := 2, cells := 0, slots := 0, locals := 42 } : Room) s m #[Value.ref h, Value.int p0] below meth c s.heap [] 0 0 Q (F0 m 49 ls [.int y_15]) := by
      intro y_15 ls hl
      rw [hQ]
      exact W.iret (v := y_15) hx hb hr (fun tt ht hW => ⟨_, rfl, trivial, ht⟩) (fun _ h => by cases h) dX5_freezeRefusal_49
    refine lv_icmp_ne (tgt := 48) hx hb dX5_freezeRefusal_33 (by decide) (fun c_8 => ?_) (fun c_8 => ?_)
    ·
      refine lv_iconst (v := -1) hx hb dX5_freezeRefusal_48 (by decide) ?_
      exact K_16 (-1) ls  (lv_sub hl [1, 2, 0] rfl)
    ·
      refine lv_aload_n hx hb dX5_freezeRefusal_36 rfl (lv_at hl 1 rfl) ?_
      refine lv_iload_n hx hb dX5_freezeRefusal_37 rfl (lv_at hl 2 rfl) ?_
      have hPc := hP.sub (ws' := [(h, .inr (6, [.ref g1, .ref g2, .int ka, .int ko, .ref g3, .ref g4])), (g1, .inl (E.2.1, 81, .inl f))]) [0, 1] rfl
      refine pc_i (va_runV (As := [.int p0]) (rest := []) ⟨hx, hb, hml, hown, hts⟩ (s_isFrozen l E h g1 g2 g3 g4 k ka ko f p0 hk (by omega)) (cwV 1 hts g_s_freezeRefusal_s_isFrozen_131 rfl rfl rfl (by decide +kernel) ⟨Nat.le_of_ble_eq_true rfl, Nat.le_of_ble_eq_true rfl⟩) ⟨pP.blind, va_recv hK hPc (ci := 6) (q0 := 0) rfl rfl, (pP.pre ⟨hK, hN⟩ hPc)⟩ rfl rfl hl.1 rfl (lv_room (Nat.le_of_ble_eq_true rfl)) dX5_freezeRefusal_38 ⟨Nat.le_of_ble_eq_true rfl, Nat.le_of_ble_eq_true rfl⟩) (fun r_17 hr_17 => ?_)
      have K_21 : ∀ (y_20 : Int32), ∀ (ls : Array Slot), lv_has ls 3 [(0, .ref h), (1, .int p0), (2, .int z_4)] → W p l e ({ frames := 2, cells := 0, slots := 0, locals := 42 } : Room) s m #[Value.ref h, Value.int p0] below meth c s.heap [] 0 0 Q (F0 m 49 ls [.int y_20]) := by
        intro y_20 ls hl
        exact K_16 y_20 ls  (lv_sub hl [0, 1, 2] rfl)
      refine lv_if_ne (tgt := 48) hx hb dX5_freezeRefusal_41 (by decide) (fun c_18 => ?_) (fun c_18 => ?_)
      ·
        refine lv_iconst (v := -1) hx hb dX5_freezeRefusal_48 (by decide) ?_
        exact K_21 (-1) ls  (lv_sub hl [1, 2, 0] rfl)
      ·
        obtain ⟨j_22, hj_22, ej_22⟩ : ∃ j : Nat, j ≤ 0 ∧ r_17 = nI j := nat_rng (by have t0 : (0 : Int32).toInt = 0 := (by decide); simp only [Int32.lt_iff_toInt_lt, Int32.le_iff_toInt_le, ge_iff_le, gt_iff_lt, ne_eq, ← Int32.toInt_inj, t0] at c_18 ⊢; omega)
        refine lv_iconst (v := 2) hx hb dX5_freezeRefusal_44 (by decide) ?_
        refine lv_goto (tgt := 49) hx hb dX5_freezeRefusal_45 (by decide) ?_
        exact K_21 2 ls  (lv_sub hl [1, 2, 0] rfl)
  ·
    obtain ⟨j_23, hj_23, ej_23⟩ : ∃ j : Nat, j ≤ 0 ∧ r_1 = nI j := nat_rng (by have t0 : (0 : Int32).toInt = 0 := (by decide); simp only [Int32.lt_iff_toInt_lt, Int32.le_iff_toInt_le, ge_iff_le, gt_iff_lt, ne_eq, ← Int32.toInt_inj, t0] at c_2 ⊢; omega)
    refine lv_iconst (v := 0) hx hb dX5_freezeRefusal_8 (by decide) ?_
    rw [hQ]
    exact W.iret (v := 0) hx hb hr (fun tt ht hW => ⟨_, rfl, trivial, ht⟩) (fun _ h => by cases h) dX5_freezeRefusal_9

def v_s_refusal : List Cond := .code yX5_refusal cX5_refusal 5 (some .int) :: ([.constant RX5 112 (-9999999), .constant RX5 113 (9999999), .fieldLink RX5 11 "HushWatch$State" "row" "[I", .methodLink RX5 105 yX5_stands, .instanceMethod yX5_stands, .selects RX5 yX5_stands yX5_stands, .initialized RX5, .methodLink RX5 108 yX5_moveRefusal, .instanceMethod yX5_moveRefusal, .selects RX5 yX5_moveRefusal yX5_moveRefusal, .methodLink RX5 114 yX5_setRefusal, .static yX5_setRefusal, .methodLink RX5 118 yX5_addRefusal, .instanceMethod yX5_addRefusal, .selects RX5 yX5_addRefusal yX5_addRefusal, .methodLink RX5 121 yX5_freezeRefusal, .instanceMethod yX5_freezeRefusal, .selects RX5 yX5_freezeRefusal yX5_freezeRefusal] ++ (v_s_stands ++ (v_s_moveRefusal ++ (wsX50 ++ (v_s_setRefusal ++ (v_s_addRefusal ++ (v_s_freezeRefusal ++ ([]))))))))
theorem gw_s_refusal : v_s_refusal.all goodWord = true := by decide +kernel
theorem i_s_refusal_X5 : ∀ w ∈ wsX50, w ∈ v_s_refusal := fun _ h => List.mem_cons_of_mem _ (List.mem_append_right _ (List.mem_append_right _ (List.mem_append_right _ (List.mem_append_left _ h))))
theorem g_s_refusal_s_stands_105 : GoodIn v_s_refusal (wsV RX5 105 RX5 yX5_stands v_s_stands) := goodIn_app (goodIn_of _ (by decide +kernel)) (goodIn_sub (fun _ h => List.mem_cons_of_mem _ (List.mem_append_right _ (List.mem_append_left _ h))) gw_s_stands)
theorem g_s_refusal_s_moveRefusal_108 : GoodIn v_s_refusal (wsV RX5 108 RX5 yX5_moveRefusal v_s_moveRefusal) := goodIn_app (goodIn_of _ (by decide +kernel)) (goodIn_sub (fun _ h => List.mem_cons_of_mem _ (List.mem_append_right _ (List.mem_append_right _ (List.mem_append_left _ h)))) gw_s_moveRefusal)
theorem g_s_refusal_s_setRefusal_114 : GoodIn v_s_refusal (va_wsS RX5 114 yX5_setRefusal v_s_setRefusal) := goodIn_app (goodIn_of _ (by decide +kernel)) (goodIn_sub (fun _ h => List.mem_cons_of_mem _ (List.mem_append_right _ (List.mem_append_right _ (List.mem_append_right _ (List.mem_append_right _ (List.mem_append_left _ h)))))) gw_s_setRefusal)
theorem g_s_refusal_s_addRefusal_118 : GoodIn v_s_refusal (wsV RX5 118 RX5 yX5_addRefusal v_s_addRefusal) := goodIn_app (goodIn_of _ (by decide +kernel)) (goodIn_sub (fun _ h => List.mem_cons_of_mem _ (List.mem_append_right _ (List.mem_append_right _ (List.mem_append_right _ (List.mem_append_right _ (List.mem_append_right _ (List.mem_append_left _ h))))))) gw_s_addRefusal)
theorem g_s_refusal_s_freezeRefusal_121 : GoodIn v_s_refusal (wsV RX5 121 RX5 yX5_freezeRefusal v_s_freezeRefusal) := goodIn_app (goodIn_of _ (by decide +kernel)) (goodIn_sub (fun _ h => List.mem_cons_of_mem _ (List.mem_append_right _ (List.mem_append_right _ (List.mem_append_right _ (List.mem_append_right _ (List.mem_append_right _ (List.mem_append_right _ (List.mem_append_left _ h)))))))) gw_s_freezeRefusal)
set_option maxHeartbeats 4000000 in
set_option maxRecDepth 100000 in
theorem s_refusal (l : Launch) (E : EE) (h g1 g2 g3 g4 k : Nat) (ka ko : Int32) (f : Nat → Int32) (p0 p1 p2 p3 : Int32) (hk : f 3 = nI k) (hk8 : k ≤ 8) : Met l yX5_refusal v_s_refusal ({ frames := 3, cells := 0, slots := 0, locals := 68 }) (va_Pc [.ref h, .int p0, .int p1, .int p2, .int p3] (pP E [(h, .inr (6, [.ref g1, .ref g2, .int ka, .int ko, .ref g3, .ref g4])), (g1, .inl (E.2.1, 81, .inl f))])) (vp_Si (fun r : Int32 => True)) 0 0 (fun _ => False) := by
  refine Met.ofW (cc := cX5_refusal) (maxL := 5) (ret := (some .int)) (by decide) rfl ?_
  intro p e s m args below meth c s₁ B hml hv
  obtain ⟨rfl, ⟨hK, hN⟩, hP⟩ := hv
  have hx := B.exec
  have hb := B.bytes
  have hr := B.returns
  have hts := atoms_spec (ws := v_s_refusal) B.pre
  have hown : s.vm.findClass RX5 = some m.cls := findClass_of_methodNamed B.named
  have hlocks := B.notSynchronized
  have hP : va_P E.1 vwCl [(h, .inr (6, [.ref g1, .ref g2, .int ka, .int ko, .ref g3, .ref g4])), (g1, .inl (E.2.1, 81, .inl f))] s.heap := hP
  have hl := lv_entry ([.ref h, .int p0, .int p1, .int p2, .int p3]) (n := 5) (Nat.le_of_ble_eq_true rfl)
  rw [lg_entry_eq]
  generalize (lg_sl ([.ref h, .int p0, .int p1, .int p2, .int p3]) ++ List.replicate (5 - (lg_sl ([.ref h, .int p0, .int p1, .int p2, .int p3])).length) Slot.unset).toArray = ls at hl ⊢
  have hl : lv_has ls 5 [(0, .ref h), (1, .int p0), (2, .int p1), (3, .int p2), (4, .int p3)] := hl
  obtain ⟨Q, hQ⟩ : ∃ Q : State → Prop, Q = MQ below (vp_Si (fun r : Int32 => True)) #[Value.ref h, Value.int p0, Value.int p1, Value.int p2, Value.int p3] s 0 0 (fun _ => False) := ⟨_, rfl⟩
  rw [← hQ]
  change W p l e ({ frames := 3, cells := 0, slots := 0, locals := 68 } : Room) s m #[Value.ref h, Value.int p0, Value.int p1, Value.int p2, Value.int p3] below meth c s.heap [] 0 0 Q (F0 m 0 ls [])
  refine lv_aload_n hx hb dX5_refusal_0 rfl (lv_at hl 0 rfl) ?_
  have hPc := hP.sub (ws' := [(h, .inr (6, [.ref g1, .ref g2, .int ka, .int ko, .ref g3, .ref g4])), (g1, .inl (E.2.1, 81, .inl f))]) [0, 1] rfl
  refine pc_i (va_runV (As := []) (rest := []) ⟨hx, hb, hml, hown, hts⟩ (s_stands l E h g1 g2 g3 g4 k ka ko f hk (by omega)) (cwV 0 hts g_s_refusal_s_stands_105 rfl rfl rfl (by decide +kernel) ⟨Nat.le_of_ble_eq_true rfl, Nat.le_of_ble_eq_true rfl⟩) ⟨pP.blind, va_recv hK hPc (ci := 6) (q0 := 0) rfl rfl, (pP.pre ⟨hK, hN⟩ hPc)⟩ rfl rfl hl.1 rfl (lv_room (Nat.le_of_ble_eq_true rfl)) dX5_refusal_1 ⟨Nat.le_of_ble_eq_true rfl, Nat.le_of_ble_eq_true rfl⟩) (fun r_1 hr_1 => ?_)
  refine lv_if_ne (tgt := 9) hx hb dX5_refusal_4 (by decide) (fun c_2 => ?_) (fun c_2 => ?_)
  ·
    refine lv_iload_n hx hb dX5_refusal_9 rfl (lv_at hl 1 rfl) ?_
    rcases Classical.em (p0 = 0) with c_3_0 | c_3_0
    ·
      refine lv_tableIn (off := 42) (tgt := 52) hx hb dX5_refusal_10 (by rw [c_3_0]; decide) (by rw [c_3_0]; decide) (by rw [c_3_0]; decide) (by decide) ?_
      refine lv_aload_n hx hb dX5_refusal_52 rfl (lv_at hl 0 rfl) ?_
      refine lv_iload_n hx hb dX5_refusal_53 rfl (lv_at hl 2 rfl) ?_
      refine lv_iload_n hx hb dX5_refusal_54 rfl (lv_at hl 3 rfl) ?_
      refine lv_iload hx hb dX5_refusal_55 (lv_at hl 4 rfl) ?_
      have hPc := hP.sub (ws' := [(h, .inr (6, [.ref g1, .ref g2, .int ka, .int ko, .ref g3, .ref g4])), (g1, .inl (E.2.1, 81, .inl f))]) [0, 1] rfl
      refine pc_i (va_runV (As := [.int p1, .int p2, .int p3]) (rest := []) ⟨hx, hb, hml, hown, hts⟩ (s_moveRefusal l E h g1 g2 g3 g4 k ka ko f p1 p2 p3 hk (by omega)) (cwV 3 hts g_s_refusal_s_moveRefusal_108 rfl rfl rfl (by decide +kernel) ⟨Nat.le_of_ble_eq_true rfl, Nat.le_of_ble_eq_true rfl⟩) ⟨pP.blind, va_recv hK hPc (ci := 6) (q0 := 0) rfl rfl, (pP.pre ⟨hK, hN⟩ hPc)⟩ rfl rfl hl.1 rfl (lv_room (Nat.le_of_ble_eq_true rfl)) dX5_refusal_57 ⟨Nat.le_of_ble_eq_true rfl, Nat.le_of_ble_eq_true rfl⟩) (fun r_4 hr_4 => ?_)
      rw [hQ]
      exact W.iret (v := r_4) hx hb hr (fun tt ht hW => ⟨_, rfl, trivial, ht⟩) (fun _ h => by cases h) dX5_refusal_60
    rcases Classical.em (p0 = 1) with c_3_1 | c_3_1
    ·
      refine lv_tableIn (off := 110) (tgt := 120) hx hb dX5_refusal_10 (by rw [c_3_1]; decide) (by rw [c_3_1]; decide) (by rw [c_3_1]; decide) (by decide) ?_
      refine lv_iconst (v := -1) hx hb dX5_refusal_120 (by decide) ?_
      rw [hQ]
      exact W.iret (v := -1) hx hb hr (fun tt ht hW => ⟨_, rfl, trivial, ht⟩) (fun _ h => by cases h) dX5_refusal_121
    rcases Classical.em (p0 = 2) with c_3_2 | c_3_2
    ·
      refine lv_tableIn (off := 51) (tgt := 61) hx hb dX5_refusal_10 (by rw [c_3_2]; decide) (by rw [c_3_2]; decide) (by rw [c_3_2]; decide) (by decide) ?_
      refine lv_iload_n hx hb dX5_refusal_61 rfl (lv_at hl 2 rfl) ?_
      refine lv_ldc (v := -9999999) hx hb hown (hts (.constant RX5 112 (-9999999)) (List.mem_of_getElem? (i := 1) rfl)) dX5_refusal_62 ?_
      refine lv_ldc (v := 9999999) hx hb hown (hts (.constant RX5 113 (9999999)) (List.mem_of_getElem? (i := 2) rfl)) dX5_refusal_64 ?_
      refine lv_aload_n hx hb dX5_refusal_66 rfl (lv_at hl 0 rfl) ?_
      refine va_get (D := E.1) (ci := 6) (v := .ref g1) (C := RX5) (T := TX5) (N := 6) hx hb hts i_s_refusal_X5 hown hK hP 0 rfl rfl 0 (by decide) (hts (.fieldLink RX5 11 "HushWatch$State" "row" "[I") (List.mem_of_getElem? (i := 3) rfl)) (fun _ h9 => h9) rfl dX5_refusal_67 ?_
      refine lv_iconst (v := 1) hx hb dX5_refusal_70 (by decide) ?_
      refine va_iald hx hb hK hP 1 0 rfl rfl (vin rfl) dX5_refusal_71 ?_
      refine W.eq (g2 := F0 m 72 ls [.int (f 1), .int 9999999, .int (-9999999), .int p1]) rfl ?_
      refine lv_topi (fun z_5 ez_5 => ?_)
      have hPc : va_P E.1 vwCl [] s.heap := fun k q h => by simp at h
      refine pc_i (va_runS (As := [.int p1, .int (-9999999), .int 9999999, .int z_5]) (rest := []) ⟨hx, hb, hml, hown, hts⟩ (s_setRefusal l E p1 (-9999999) 9999999 z_5) (va_cwS 4 hts g_s_refusal_s_setRefusal_114 rfl rfl rfl (by decide +kernel) ⟨Nat.le_of_ble_eq_true rfl, Nat.le_of_ble_eq_true rfl⟩) ⟨pP.blind, (pP.pre ⟨hK, hN⟩ hPc)⟩ rfl rfl hl.1 rfl (lv_room (Nat.le_of_ble_eq_true rfl)) dX5_refusal_72 ⟨Nat.le_of_ble_eq_true rfl, Nat.le_of_ble_eq_true rfl⟩) (fun r_6 hr_6 => ?_)
      rw [hQ]
      exact W.iret (v := r_6) hx hb hr (fun tt ht hW => ⟨_, rfl, trivial, ht⟩) (fun _ h => by cases h) dX5_refusal_75
    rcases Classical.em (p0 = 3) with c_3_3 | c_3_3
    ·
      refine lv_tableIn (off := 66) (tgt := 76) hx hb dX5_refusal_10 (by rw [c_3_3]; decide) (by rw [c_3_3]; decide) (by rw [c_3_3]; decide) (by decide) ?_
      refine lv_iload_n hx hb dX5_refusal_76 rfl (lv_at hl 2 rfl) ?_
      refine lv_iconst (v := 0) hx hb dX5_refusal_77 (by decide) ?_
      refine lv_iconst (v := 3) hx hb dX5_refusal_78 (by decide) ?_
      refine lv_aload_n hx hb dX5_refusal_79 rfl (lv_at hl 0 rfl) ?_
      refine va_get (D := E.1) (ci := 6) (v := .ref g1) (C := RX5) (T := TX5) (N := 6) hx hb hts i_s_refusal_X5 hown hK hP 0 rfl rfl 0 (by decide) (hts (.fieldLink RX5 11 "HushWatch$State" "row" "[I") (List.mem_of_getElem? (i := 3) rfl)) (fun _ h9 => h9) rfl dX5_refusal_80 ?_
      refine lv_iconst (v := 0) hx hb dX5_refusal_83 (by decide) ?_
      refine va_iald hx hb hK hP 1 0 rfl rfl (vin rfl) dX5_refusal_84 ?_
      refine W.eq (g2 := F0 m 85 ls [.int (f 0), .int 3, .int 0, .int p1]) rfl ?_
      refine lv_topi (fun z_7 ez_7 => ?_)
      have hPc : va_P E.1 vwCl [] s.heap := fun k q h => by simp at h
      refine pc_i (va_runS (As := [.int p1, .int 0, .int 3, .int z_7]) (rest := []) ⟨hx, hb, hml, hown, hts⟩ (s_setRefusal l E p1 0 3 z_7) (va_cwS 4 hts g_s_refusal_s_setRefusal_114 rfl rfl rfl (by decide +kernel) ⟨Nat.le_of_ble_eq_true rfl, Nat.le_of_ble_eq_true rfl⟩) ⟨pP.blind, (pP.pre ⟨hK, hN⟩ hPc)⟩ rfl rfl hl.1 rfl (lv_room (Nat.le_of_ble_eq_true rfl)) dX5_refusal_85 ⟨Nat.le_of_ble_eq_true rfl, Nat.le_of_ble_eq_true rfl⟩) (fun r_8 hr_8 => ?_)
      rw [hQ]
      exact W.iret (v := r_8) hx hb hr (fun tt ht hW => ⟨_, rfl, trivial, ht⟩) (fun _ h => by cases h) dX5_refusal_88
    rcases Classical.em (p0 = 4) with c_3_4 | c_3_4
    ·
      refine lv_tableIn (off := 79) (tgt := 89) hx hb dX5_refusal_10 (by rw [c_3_4]; decide) (by rw [c_3_4]; decide) (by rw [c_3_4]; decide) (by decide) ?_
      refine lv_aload_n hx hb dX5_refusal_89 rfl (lv_at hl 0 rfl) ?_
      refine lv_iload_n hx hb dX5_refusal_90 rfl (lv_at hl 2 rfl) ?_
      refine lv_iload_n hx hb dX5_refusal_91 rfl (lv_at hl 3 rfl) ?_
      have hPc := hP.sub (ws' := [(h, .inr (6, [.ref g1, .ref g2, .int ka, .int ko, .ref g3, .ref g4])), (g1, .inl (E.2.1, 81, .inl f))]) [0, 1] rfl
      refine pc_i (va_runV (As := [.int p1, .int p2]) (rest := []) ⟨hx, hb, hml, hown, hts⟩ (s_addRefusal l E h g1 g2 g3 g4 k ka ko f p1 p2 hk (by omega)) (cwV 2 hts g_s_refusal_s_addRefusal_118 rfl rfl rfl (by decide +kernel) ⟨Nat.le_of_ble_eq_true rfl, Nat.le_of_ble_eq_true rfl⟩) ⟨pP.blind, va_recv hK hPc (ci := 6) (q0 := 0) rfl rfl, (pP.pre ⟨hK, hN⟩ hPc)⟩ rfl rfl hl.1 rfl (lv_room (Nat.le_of_ble_eq_true rfl)) dX5_refusal_92 ⟨Nat.le_of_ble_eq_true rfl, Nat.le_of_ble_eq_true rfl⟩) (fun r_9 hr_9 => ?_)
      rw [hQ]
      exact W.iret (v := r_9) hx hb hr (fun tt ht hW => ⟨_, rfl, trivial, ht⟩) (fun _ h => by cases h) dX5_refusal_95
    rcases Classical.em (p0 = 5) with c_3_5 | c_3_5
    ·
      refine lv_tableIn (off := 86) (tgt := 96) hx hb dX5_refusal_10 (by rw [c_3_5]; decide) (by rw [c_3_5]; decide) (by rw [c_3_5]; decide) (by decide) ?_
      refine lv_iload_n hx hb dX5_refusal_96 rfl (lv_at hl 2 rfl) ?_
      refine lv_iconst (v := 1) hx hb dX5_refusal_97 (by decide) ?_
      have K_17 : ∀ (y_16 : Int32), ∀ (ls : Array Slot), lv_has ls 5 [(0, .ref h), (1, .int p0), (2, .int p1), (3, .int p2), (4, .int p3)] → W p l e ({ frames := 3, cells := 0, slots := 0, locals := 68 } : Room) s m #[Value.ref h, Value.int p0, Value.int p1, Value.int p2, Value.int p3] below meth c s.heap [] 0 0 Q (F0 m 113 ls [.int y_16]) := by
        intro y_16 ls hl
        rw [hQ]
        exact W.iret (v := y_16) hx hb hr (fun tt ht hW => ⟨_, rfl, trivial, ht⟩) (fun _ h => by cases h) dX5_refusal_113
      refine lv_icmp_lt (tgt := 108) hx hb dX5_refusal_98 (by decide) (fun c_10 => ?_) (fun c_10 => ?_)
      ·
        refine lv_iconst (v := 1) hx hb dX5_refusal_108 (by decide) ?_
        refine lv_goto (tgt := 113) hx hb dX5_refusal_109 (by decide) ?_
        exact K_17 1 ls  (lv_sub hl [0, 1, 2, 3, 4] rfl)
      ·
        refine lv_iload_n hx hb dX5_refusal_101 rfl (lv_at hl 2 rfl) ?_
        refine lv_sipush (v := 9999) hx hb dX5_refusal_102 (by decide) ?_
        have K_21 : ∀ (y_20 : Int32), ∀ (ls : Array Slot), lv_has ls 5 [(0, .ref h), (1, .int p0), (2, .int p1), (3, .int p2), (4, .int p3)] → W p l e ({ frames := 3, cells := 0, slots := 0, locals := 68 } : Room) s m #[Value.ref h, Value.int p0, Value.int p1, Value.int p2, Value.int p3] below meth c s.heap [] 0 0 Q (F0 m 113 ls [.int y_20]) := by
          intro y_20 ls hl
          exact K_17 y_20 ls  (lv_sub hl [0, 1, 2, 3, 4] rfl)
        refine lv_icmp_le (tgt := 112) hx hb dX5_refusal_105 (by decide) (fun c_18 => ?_) (fun c_18 => ?_)
        ·
          obtain ⟨j_22, hj_22, ej_22⟩ : ∃ j : Nat, j ≤ 9999 ∧ p1 = nI j := nat_rng (by have t0 : (0 : Int32).toInt = 0 := (by decide); have t1 : (1 : Int32).toInt = 1 := (by decide); have t2 : (9999 : Int32).toInt = 9999 := (by decide); simp only [Int32.lt_iff_toInt_lt, Int32.le_iff_toInt_le, ge_iff_le, gt_iff_lt, ne_eq, ← Int32.toInt_inj, t0, t1, t2] at c_10 c_18 ⊢; omega)
          refine lv_iconst (v := -1) hx hb dX5_refusal_112 (by decide) ?_
          exact K_21 (-1) ls  (lv_sub hl [0, 1, 2, 3, 4] rfl)
        ·
          refine lv_iconst (v := 1) hx hb dX5_refusal_108 (by decide) ?_
          refine lv_goto (tgt := 113) hx hb dX5_refusal_109 (by decide) ?_
          exact K_21 1 ls  (lv_sub hl [0, 1, 2, 3, 4] rfl)
    rcases Classical.em (p0 = 6) with c_3_6 | c_3_6
    ·
      refine lv_tableIn (off := 104) (tgt := 114) hx hb dX5_refusal_10 (by rw [c_3_6]; decide) (by rw [c_3_6]; decide) (by rw [c_3_6]; decide) (by decide) ?_
      refine lv_aload_n hx hb dX5_refusal_114 rfl (lv_at hl 0 rfl) ?_
      refine lv_iload_n hx hb dX5_refusal_115 rfl (lv_at hl 2 rfl) ?_
      have hPc := hP.sub (ws' := [(h, .inr (6, [.ref g1, .ref g2, .int ka, .int ko, .ref g3, .ref g4])), (g1, .inl (E.2.1, 81, .inl f))]) [0, 1] rfl
      refine pc_i (va_runV (As := [.int p1]) (rest := []) ⟨hx, hb, hml, hown, hts⟩ (s_freezeRefusal l E h g1 g2 g3 g4 k ka ko f p1 hk (by omega)) (cwV 1 hts g_s_refusal_s_freezeRefusal_121 rfl rfl rfl (by decide +kernel) ⟨Nat.le_of_ble_eq_true rfl, Nat.le_of_ble_eq_true rfl⟩) ⟨pP.blind, va_recv hK hPc (ci := 6) (q0 := 0) rfl rfl, (pP.pre ⟨hK, hN⟩ hPc)⟩ rfl rfl hl.1 rfl (lv_room (Nat.le_of_ble_eq_true rfl)) dX5_refusal_116 ⟨Nat.le_of_ble_eq_true rfl, Nat.le_of_ble_eq_true rfl⟩) (fun r_23 hr_23 => ?_)
      rw [hQ]
      exact W.iret (v := r_23) hx hb hr (fun tt ht hW => ⟨_, rfl, trivial, ht⟩) (fun _ h => by cases h) dX5_refusal_119
    refine lv_tableOut (tgt := 120) hx hb dX5_refusal_10 (by have t0 : (0 : Int32).toInt = 0 := (by decide); have t1 : (1 : Int32).toInt = 1 := (by decide); have t2 : (2 : Int32).toInt = 2 := (by decide); have t3 : (3 : Int32).toInt = 3 := (by decide); have t4 : (4 : Int32).toInt = 4 := (by decide); have t5 : (5 : Int32).toInt = 5 := (by decide); have t6 : (6 : Int32).toInt = 6 := (by decide); simp only [← Int32.toInt_inj, t0, t1, t2, t3, t4, t5, t6] at c_3_0 c_3_1 c_3_2 c_3_3 c_3_4 c_3_5 c_3_6; omega) (by decide) ?_
    refine lv_iconst (v := -1) hx hb dX5_refusal_120 (by decide) ?_
    rw [hQ]
    exact W.iret (v := -1) hx hb hr (fun tt ht hW => ⟨_, rfl, trivial, ht⟩) (fun _ h => by cases h) dX5_refusal_121
  ·
    obtain ⟨j_24, hj_24, ej_24⟩ : ∃ j : Nat, j ≤ 0 ∧ r_1 = nI j := nat_rng (by have t0 : (0 : Int32).toInt = 0 := (by decide); simp only [Int32.lt_iff_toInt_lt, Int32.le_iff_toInt_le, ge_iff_le, gt_iff_lt, ne_eq, ← Int32.toInt_inj, t0] at c_2 ⊢; omega)
    refine lv_iconst (v := 0) hx hb dX5_refusal_7 (by decide) ?_
    rw [hQ]
    exact W.iret (v := 0) hx hb hr (fun tt ht hW => ⟨_, rfl, trivial, ht⟩) (fun _ h => by cases h) dX5_refusal_8
