theorem dX3_heldMessages_1 : decode cX3_heldMessages 1 = .ok (.getfield 7, 3) := by decide +kernel
theorem dX3_heldMessages_4 : decode cX3_heldMessages 4 = .ok (.sipush 341, 3) := by decide +kernel
theorem dX3_heldMessages_7 : decode cX3_heldMessages 7 = .ok (.iaload, 1) := by decide +kernel
theorem dX3_heldMessages_8 : decode cX3_heldMessages 8 = .ok (.ireturn, 1) := by decide +kernel
theorem dX3_delivered_0 : decode cX3_delivered 0 = .ok (.aload_n 0, 1) := by decide +kernel
theorem dX3_delivered_1 : decode cX3_delivered 1 = .ok (.getfield 7, 3) := by decide +kernel
theorem dX3_delivered_4 : decode cX3_delivered 4 = .ok (.sipush 465, 3) := by decide +kernel
theorem dX3_delivered_7 : decode cX3_delivered 7 = .ok (.iaload, 1) := by decide +kernel
theorem dX3_delivered_8 : decode cX3_delivered 8 = .ok (.ireturn, 1) := by decide +kernel
theorem dX3_overtaken_0 : decode cX3_overtaken 0 = .ok (.aload_n 0, 1) := by decide +kernel
theorem dX3_overtaken_1 : decode cX3_overtaken 1 = .ok (.getfield 7, 3) := by decide +kernel
theorem dX3_overtaken_4 : decode cX3_overtaken 4 = .ok (.sipush 466, 3) := by decide +kernel
theorem dX3_overtaken_7 : decode cX3_overtaken 7 = .ok (.iaload, 1) := by decide +kernel
theorem dX3_overtaken_8 : decode cX3_overtaken 8 = .ok (.ireturn, 1) := by decide +kernel
theorem dX3_unreachable_0 : decode cX3_unreachable 0 = .ok (.aload_n 0, 1) := by decide +kernel
theorem dX3_unreachable_1 : decode cX3_unreachable 1 = .ok (.getfield 7, 3) := by decide +kernel
theorem dX3_unreachable_4 : decode cX3_unreachable 4 = .ok (.sipush 467, 3) := by decide +kernel
theorem dX3_unreachable_7 : decode cX3_unreachable 7 = .ok (.iaload, 1) := by decide +kernel
theorem dX3_unreachable_8 : decode cX3_unreachable 8 = .ok (.ireturn, 1) := by decide +kernel
theorem dX3_congested_0 : decode cX3_congested 0 = .ok (.aload_n 0, 1) := by decide +kernel
theorem dX3_congested_1 : decode cX3_congested 1 = .ok (.getfield 7, 3) := by decide +kernel
theorem dX3_congested_4 : decode cX3_congested 4 = .ok (.sipush 468, 3) := by decide +kernel
theorem dX3_congested_7 : decode cX3_congested 7 = .ok (.iaload, 1) := by decide +kernel
theorem dX3_congested_8 : decode cX3_congested 8 = .ok (.ireturn, 1) := by decide +kernel
theorem dX3_lost_0 : decode cX3_lost 0 = .ok (.aload_n 0, 1) := by decide +kernel
theorem dX3_lost_1 : decode cX3_lost 1 = .ok (.getfield 7, 3) := by decide +kernel
theorem dX3_lost_4 : decode cX3_lost 4 = .ok (.sipush 469, 3) := by decide +kernel
theorem dX3_lost_7 : decode cX3_lost 7 = .ok (.iaload, 1) := by decide +kernel
theorem dX3_lost_8 : decode cX3_lost 8 = .ok (.ireturn, 1) := by decide +kernel
theorem dX3_spread_0 : decode cX3_spread 0 = .ok (.iload_n 1, 1) := by decide +kernel
theorem dX3_spread_1 : decode cX3_spread 1 = .ok (.invokestatic 80, 3) := by decide +kernel
theorem dX3_spread_4 : decode cX3_spread 4 = .ok (.ifCond .ne 10, 3) := by decide +kernel
theorem dX3_spread_7 : decode cX3_spread 7 = .ok (.aload_n 0, 1) := by decide +kernel
theorem dX3_spread_8 : decode cX3_spread 8 = .ok (.bipush (-2), 2) := by decide +kernel
theorem dX3_spread_10 : decode cX3_spread 10 = .ok (.invokevirtual 29, 3) := by decide +kernel
theorem dX3_spread_13 : decode cX3_spread 13 = .ok (.ireturn, 1) := by decide +kernel
theorem dX3_spread_14 : decode cX3_spread 14 = .ok (.iconst 0, 1) := by decide +kernel
theorem dX3_spread_15 : decode cX3_spread 15 = .ok (.istore_n 2, 1) := by decide +kernel
theorem dX3_spread_16 : decode cX3_spread 16 = .ok (.iconst 0, 1) := by decide +kernel
theorem dX3_spread_17 : decode cX3_spread 17 = .ok (.istore_n 3, 1) := by decide +kernel
theorem dX3_spread_18 : decode cX3_spread 18 = .ok (.iload_n 3, 1) := by decide +kernel
theorem dX3_spread_19 : decode cX3_spread 19 = .ok (.bipush 16, 2) := by decide +kernel
theorem dX3_spread_21 : decode cX3_spread 21 = .ok (.if_icmp .ge 68, 3) := by decide +kernel
theorem dX3_spread_24 : decode cX3_spread 24 = .ok (.iconst 0, 1) := by decide +kernel
theorem dX3_spread_25 : decode cX3_spread 25 = .ok (.istore 4, 2) := by decide +kernel
theorem dX3_spread_27 : decode cX3_spread 27 = .ok (.iconst 0, 1) := by decide +kernel
theorem dX3_spread_28 : decode cX3_spread 28 = .ok (.istore 5, 2) := by decide +kernel
theorem dX3_spread_30 : decode cX3_spread 30 = .ok (.iload 5, 2) := by decide +kernel
theorem dX3_spread_32 : decode cX3_spread 32 = .ok (.bipush 16, 2) := by decide +kernel
theorem dX3_spread_34 : decode cX3_spread 34 = .ok (.if_icmp .ge 36, 3) := by decide +kernel
theorem dX3_spread_37 : decode cX3_spread 37 = .ok (.iload 4, 2) := by decide +kernel
theorem dX3_spread_39 : decode cX3_spread 39 = .ok (.ifCond .ne 18, 3) := by decide +kernel
theorem dX3_spread_42 : decode cX3_spread 42 = .ok (.aload_n 0, 1) := by decide +kernel
theorem dX3_spread_43 : decode cX3_spread 43 = .ok (.bipush 16, 2) := by decide +kernel
theorem dX3_spread_45 : decode cX3_spread 45 = .ok (.iload_n 1, 1) := by decide +kernel
theorem dX3_spread_46 : decode cX3_spread 46 = .ok (.imul, 1) := by decide +kernel
theorem dX3_spread_47 : decode cX3_spread 47 = .ok (.iload 5, 2) := by decide +kernel
theorem dX3_spread_49 : decode cX3_spread 49 = .ok (.iadd, 1) := by decide +kernel
theorem dX3_spread_50 : decode cX3_spread 50 = .ok (.invokevirtual 54, 3) := by decide +kernel
theorem dX3_spread_53 : decode cX3_spread 53 = .ok (.iload_n 3, 1) := by decide +kernel
theorem dX3_spread_54 : decode cX3_spread 54 = .ok (.if_icmp .ne 7, 3) := by decide +kernel
theorem dX3_spread_57 : decode cX3_spread 57 = .ok (.iconst 1, 1) := by decide +kernel
theorem dX3_spread_58 : decode cX3_spread 58 = .ok (.goto 4, 3) := by decide +kernel
theorem dX3_spread_61 : decode cX3_spread 61 = .ok (.iconst 0, 1) := by decide +kernel
theorem dX3_spread_62 : decode cX3_spread 62 = .ok (.istore 4, 2) := by decide +kernel
theorem dX3_spread_64 : decode cX3_spread 64 = .ok (.iinc 5 1, 3) := by decide +kernel
theorem dX3_spread_67 : decode cX3_spread 67 = .ok (.goto (-37), 3) := by decide +kernel
theorem dX3_spread_70 : decode cX3_spread 70 = .ok (.iload_n 2, 1) := by decide +kernel
theorem dX3_spread_71 : decode cX3_spread 71 = .ok (.iload 4, 2) := by decide +kernel
theorem dX3_spread_73 : decode cX3_spread 73 = .ok (.ifCond .eq 7, 3) := by decide +kernel
theorem dX3_spread_76 : decode cX3_spread 76 = .ok (.iconst 1, 1) := by decide +kernel
theorem dX3_spread_77 : decode cX3_spread 77 = .ok (.goto 4, 3) := by decide +kernel
theorem dX3_spread_80 : decode cX3_spread 80 = .ok (.iconst 0, 1) := by decide +kernel
theorem dX3_spread_81 : decode cX3_spread 81 = .ok (.iadd, 1) := by decide +kernel
theorem dX3_spread_82 : decode cX3_spread 82 = .ok (.istore_n 2, 1) := by decide +kernel
theorem dX3_spread_83 : decode cX3_spread 83 = .ok (.iinc 3 1, 3) := by decide +kernel
theorem dX3_spread_86 : decode cX3_spread 86 = .ok (.goto (-68), 3) := by decide +kernel
theorem dX3_spread_89 : decode cX3_spread 89 = .ok (.iload_n 2, 1) := by decide +kernel
theorem dX3_spread_90 : decode cX3_spread 90 = .ok (.ireturn, 1) := by decide +kernel
theorem dX3_errorCount_0 : decode cX3_errorCount 0 = .ok (.iload_n 1, 1) := by decide +kernel
theorem dX3_errorCount_1 : decode cX3_errorCount 1 = .ok (.iconst 0, 1) := by decide +kernel
theorem dX3_errorCount_2 : decode cX3_errorCount 2 = .ok (.iconst 2, 1) := by decide +kernel
theorem dX3_errorCount_3 : decode cX3_errorCount 3 = .ok (.invokestatic 33, 3) := by decide +kernel
theorem dX3_errorCount_6 : decode cX3_errorCount 6 = .ok (.ifCond .eq 12, 3) := by decide +kernel
theorem dX3_errorCount_9 : decode cX3_errorCount 9 = .ok (.aload_n 0, 1) := by decide +kernel
theorem dX3_errorCount_10 : decode cX3_errorCount 10 = .ok (.getfield 16, 3) := by decide +kernel
theorem dX3_errorCount_13 : decode cX3_errorCount 13 = .ok (.iload_n 1, 1) := by decide +kernel
theorem dX3_errorCount_14 : decode cX3_errorCount 14 = .ok (.iaload, 1) := by decide +kernel
theorem dX3_errorCount_15 : decode cX3_errorCount 15 = .ok (.goto 9, 3) := by decide +kernel
theorem dX3_errorCount_18 : decode cX3_errorCount 18 = .ok (.aload_n 0, 1) := by decide +kernel
theorem dX3_errorCount_19 : decode cX3_errorCount 19 = .ok (.bipush (-2), 2) := by decide +kernel
theorem dX3_errorCount_21 : decode cX3_errorCount 21 = .ok (.invokevirtual 29, 3) := by decide +kernel
theorem dX3_errorCount_24 : decode cX3_errorCount 24 = .ok (.ireturn, 1) := by decide +kernel
theorem dX3_mix_0 : decode cX3_mix 0 = .ok (.aload_n 0, 1) := by decide +kernel
theorem dX3_mix_1 : decode cX3_mix 1 = .ok (.ldc2_w 89, 3) := by decide +kernel
theorem dX3_mix_4 : decode cX3_mix 4 = .ok (.aload_n 0, 1) := by decide +kernel
theorem dX3_mix_5 : decode cX3_mix 5 = .ok (.getfield 91, 3) := by decide +kernel
theorem dX3_mix_8 : decode cX3_mix 8 = .ok (.lmul, 1) := by decide +kernel
theorem dX3_mix_9 : decode cX3_mix 9 = .ok (.iload_n 1, 1) := by decide +kernel
theorem dX3_mix_10 : decode cX3_mix 10 = .ok (.i2l, 1) := by decide +kernel
theorem dX3_mix_11 : decode cX3_mix 11 = .ok (.ladd, 1) := by decide +kernel
theorem dX3_mix_12 : decode cX3_mix 12 = .ok (.putfield 91, 3) := by decide +kernel
theorem dX3_mix_15 : decode cX3_mix 15 = .ok (.return_, 1) := by decide +kernel
theorem dX3_mixLink_0 : decode cX3_mixLink 0 = .ok (.aload_n 0, 1) := by decide +kernel
theorem dX3_mixLink_1 : decode cX3_mixLink 1 = .ok (.aload_n 0, 1) := by decide +kernel
theorem dX3_mixLink_2 : decode cX3_mixLink 2 = .ok (.getfield 7, 3) := by decide +kernel
theorem dX3_mixLink_5 : decode cX3_mixLink 5 = .ok (.iconst 5, 1) := by decide +kernel
theorem dX3_mixLink_6 : decode cX3_mixLink 6 = .ok (.iload_n 1, 1) := by decide +kernel
theorem dX3_mixLink_7 : decode cX3_mixLink 7 = .ok (.iadd, 1) := by decide +kernel
theorem dX3_mixLink_8 : decode cX3_mixLink 8 = .ok (.iaload, 1) := by decide +kernel
theorem dX3_mixLink_9 : decode cX3_mixLink 9 = .ok (.invokevirtual 95, 3) := by decide +kernel
theorem dX3_mixLink_12 : decode cX3_mixLink 12 = .ok (.aload_n 0, 1) := by decide +kernel
theorem dX3_mixLink_13 : decode cX3_mixLink 13 = .ok (.aload_n 0, 1) := by decide +kernel
theorem dX3_mixLink_14 : decode cX3_mixLink 14 = .ok (.getfield 7, 3) := by decide +kernel
theorem dX3_mixLink_17 : decode cX3_mixLink 17 = .ok (.bipush 21, 2) := by decide +kernel
theorem dX3_mixLink_19 : decode cX3_mixLink 19 = .ok (.iload_n 1, 1) := by decide +kernel
theorem dX3_mixLink_20 : decode cX3_mixLink 20 = .ok (.iadd, 1) := by decide +kernel
theorem dX3_mixLink_21 : decode cX3_mixLink 21 = .ok (.iaload, 1) := by decide +kernel
theorem dX3_mixLink_22 : decode cX3_mixLink 22 = .ok (.invokevirtual 95, 3) := by decide +kernel
theorem dX3_mixLink_25 : decode cX3_mixLink 25 = .ok (.iconst 0, 1) := by decide +kernel
theorem dX3_mixLink_26 : decode cX3_mixLink 26 = .ok (.istore_n 2, 1) := by decide +kernel
theorem dX3_mixLink_27 : decode cX3_mixLink 27 = .ok (.iload_n 2, 1) := by decide +kernel
theorem dX3_mixLink_28 : decode cX3_mixLink 28 = .ok (.aload_n 0, 1) := by decide +kernel
theorem dX3_mixLink_29 : decode cX3_mixLink 29 = .ok (.getfield 7, 3) := by decide +kernel
theorem dX3_mixLink_32 : decode cX3_mixLink 32 = .ok (.bipush 21, 2) := by decide +kernel
theorem dX3_mixLink_34 : decode cX3_mixLink 34 = .ok (.iload_n 1, 1) := by decide +kernel
theorem dX3_mixLink_35 : decode cX3_mixLink 35 = .ok (.iadd, 1) := by decide +kernel
theorem dX3_mixLink_36 : decode cX3_mixLink 36 = .ok (.iaload, 1) := by decide +kernel
theorem dX3_mixLink_37 : decode cX3_mixLink 37 = .ok (.if_icmp .ge 31, 3) := by decide +kernel
theorem dX3_mixLink_40 : decode cX3_mixLink 40 = .ok (.aload_n 0, 1) := by decide +kernel
theorem dX3_mixLink_41 : decode cX3_mixLink 41 = .ok (.aload_n 0, 1) := by decide +kernel
theorem dX3_mixLink_42 : decode cX3_mixLink 42 = .ok (.getfield 7, 3) := by decide +kernel
theorem dX3_mixLink_45 : decode cX3_mixLink 45 = .ok (.bipush 37, 2) := by decide +kernel
theorem dX3_mixLink_47 : decode cX3_mixLink 47 = .ok (.bipush 10, 2) := by decide +kernel
theorem dX3_mixLink_49 : decode cX3_mixLink 49 = .ok (.iload_n 1, 1) := by decide +kernel
theorem dX3_mixLink_50 : decode cX3_mixLink 50 = .ok (.imul, 1) := by decide +kernel
theorem dX3_mixLink_51 : decode cX3_mixLink 51 = .ok (.iadd, 1) := by decide +kernel
theorem dX3_mixLink_52 : decode cX3_mixLink 52 = .ok (.iload_n 2, 1) := by decide +kernel
theorem dX3_mixLink_53 : decode cX3_mixLink 53 = .ok (.iadd, 1) := by decide +kernel
theorem dX3_mixLink_54 : decode cX3_mixLink 54 = .ok (.iaload, 1) := by decide +kernel
theorem dX3_mixLink_55 : decode cX3_mixLink 55 = .ok (.sipush 128, 3) := by decide +kernel
theorem dX3_mixLink_58 : decode cX3_mixLink 58 = .ok (.idiv, 1) := by decide +kernel
theorem dX3_mixLink_59 : decode cX3_mixLink 59 = .ok (.invokevirtual 95, 3) := by decide +kernel
theorem dX3_mixLink_62 : decode cX3_mixLink 62 = .ok (.iinc 2 1, 3) := by decide +kernel
theorem dX3_mixLink_65 : decode cX3_mixLink 65 = .ok (.goto (-38), 3) := by decide +kernel
theorem dX3_mixLink_68 : decode cX3_mixLink 68 = .ok (.return_, 1) := by decide +kernel
theorem dX3_mixDestination_0 : decode cX3_mixDestination 0 = .ok (.iconst 0, 1) := by decide +kernel
theorem dX3_mixDestination_1 : decode cX3_mixDestination 1 = .ok (.istore_n 2, 1) := by decide +kernel
theorem dX3_mixDestination_2 : decode cX3_mixDestination 2 = .ok (.iload_n 2, 1) := by decide +kernel
theorem dX3_mixDestination_3 : decode cX3_mixDestination 3 = .ok (.aload_n 0, 1) := by decide +kernel
theorem dX3_mixDestination_4 : decode cX3_mixDestination 4 = .ok (.getfield 7, 3) := by decide +kernel
theorem dX3_mixDestination_7 : decode cX3_mixDestination 7 = .ok (.iconst 0, 1) := by decide +kernel
theorem dX3_mixDestination_8 : decode cX3_mixDestination 8 = .ok (.iaload, 1) := by decide +kernel
theorem dX3_mixDestination_9 : decode cX3_mixDestination 9 = .ok (.if_icmp .ge 45, 3) := by decide +kernel
theorem dX3_mixDestination_12 : decode cX3_mixDestination 12 = .ok (.aload_n 0, 1) := by decide +kernel
theorem dX3_mixDestination_13 : decode cX3_mixDestination 13 = .ok (.aload_n 0, 1) := by decide +kernel
theorem dX3_mixDestination_14 : decode cX3_mixDestination 14 = .ok (.getfield 7, 3) := by decide +kernel
theorem dX3_mixDestination_17 : decode cX3_mixDestination 17 = .ok (.sipush 197, 3) := by decide +kernel
theorem dX3_mixDestination_20 : decode cX3_mixDestination 20 = .ok (.iconst 4, 1) := by decide +kernel
theorem dX3_mixDestination_21 : decode cX3_mixDestination 21 = .ok (.iload_n 1, 1) := by decide +kernel
theorem dX3_mixDestination_22 : decode cX3_mixDestination 22 = .ok (.imul, 1) := by decide +kernel
theorem dX3_mixDestination_23 : decode cX3_mixDestination 23 = .ok (.iadd, 1) := by decide +kernel
theorem dX3_mixDestination_24 : decode cX3_mixDestination 24 = .ok (.iload_n 2, 1) := by decide +kernel
theorem dX3_mixDestination_25 : decode cX3_mixDestination 25 = .ok (.iadd, 1) := by decide +kernel
theorem dX3_mixDestination_26 : decode cX3_mixDestination 26 = .ok (.iaload, 1) := by decide +kernel
theorem dX3_mixDestination_27 : decode cX3_mixDestination 27 = .ok (.invokevirtual 95, 3) := by decide +kernel
theorem dX3_mixDestination_30 : decode cX3_mixDestination 30 = .ok (.aload_n 0, 1) := by decide +kernel
theorem dX3_mixDestination_31 : decode cX3_mixDestination 31 = .ok (.aload_n 0, 1) := by decide +kernel
theorem dX3_mixDestination_32 : decode cX3_mixDestination 32 = .ok (.getfield 7, 3) := by decide +kernel
theorem dX3_mixDestination_35 : decode cX3_mixDestination 35 = .ok (.sipush 221, 3) := by decide +kernel
theorem dX3_mixDestination_38 : decode cX3_mixDestination 38 = .ok (.iconst 4, 1) := by decide +kernel
theorem dX3_mixDestination_39 : decode cX3_mixDestination 39 = .ok (.iload_n 1, 1) := by decide +kernel
theorem dX3_mixDestination_40 : decode cX3_mixDestination 40 = .ok (.imul, 1) := by decide +kernel
theorem dX3_mixDestination_41 : decode cX3_mixDestination 41 = .ok (.iadd, 1) := by decide +kernel
theorem dX3_mixDestination_42 : decode cX3_mixDestination 42 = .ok (.iload_n 2, 1) := by decide +kernel
theorem dX3_mixDestination_43 : decode cX3_mixDestination 43 = .ok (.iadd, 1) := by decide +kernel
theorem dX3_mixDestination_44 : decode cX3_mixDestination 44 = .ok (.iaload, 1) := by decide +kernel
theorem dX3_mixDestination_45 : decode cX3_mixDestination 45 = .ok (.invokevirtual 95, 3) := by decide +kernel
theorem dX3_mixDestination_48 : decode cX3_mixDestination 48 = .ok (.iinc 2 1, 3) := by decide +kernel
theorem dX3_mixDestination_51 : decode cX3_mixDestination 51 = .ok (.goto (-49), 3) := by decide +kernel
theorem dX3_mixDestination_54 : decode cX3_mixDestination 54 = .ok (.bipush 16, 2) := by decide +kernel
theorem dX3_mixDestination_56 : decode cX3_mixDestination 56 = .ok (.iload_n 1, 1) := by decide +kernel
theorem dX3_mixDestination_57 : decode cX3_mixDestination 57 = .ok (.imul, 1) := by decide +kernel
theorem dX3_mixDestination_58 : decode cX3_mixDestination 58 = .ok (.istore_n 2, 1) := by decide +kernel
theorem dX3_mixDestination_59 : decode cX3_mixDestination 59 = .ok (.iload_n 2, 1) := by decide +kernel
theorem dX3_mixDestination_60 : decode cX3_mixDestination 60 = .ok (.bipush 16, 2) := by decide +kernel
theorem dX3_mixDestination_62 : decode cX3_mixDestination 62 = .ok (.iload_n 1, 1) := by decide +kernel
theorem dX3_mixDestination_63 : decode cX3_mixDestination 63 = .ok (.imul, 1) := by decide +kernel
theorem dX3_mixDestination_64 : decode cX3_mixDestination 64 = .ok (.bipush 16, 2) := by decide +kernel
theorem dX3_mixDestination_66 : decode cX3_mixDestination 66 = .ok (.iadd, 1) := by decide +kernel
theorem dX3_mixDestination_67 : decode cX3_mixDestination 67 = .ok (.if_icmp .ge 40, 3) := by decide +kernel
theorem dX3_mixDestination_70 : decode cX3_mixDestination 70 = .ok (.aload_n 0, 1) := by decide +kernel
theorem dX3_mixDestination_71 : decode cX3_mixDestination 71 = .ok (.aload_n 0, 1) := by decide +kernel
theorem dX3_mixDestination_72 : decode cX3_mixDestination 72 = .ok (.iload_n 2, 1) := by decide +kernel
theorem dX3_mixDestination_73 : decode cX3_mixDestination 73 = .ok (.invokevirtual 54, 3) := by decide +kernel
theorem dX3_mixDestination_76 : decode cX3_mixDestination 76 = .ok (.invokevirtual 95, 3) := by decide +kernel
theorem dX3_mixDestination_79 : decode cX3_mixDestination 79 = .ok (.aload_n 0, 1) := by decide +kernel
theorem dX3_mixDestination_80 : decode cX3_mixDestination 80 = .ok (.aload_n 0, 1) := by decide +kernel
theorem dX3_mixDestination_81 : decode cX3_mixDestination 81 = .ok (.getfield 7, 3) := by decide +kernel
theorem dX3_mixDestination_84 : decode cX3_mixDestination 84 = .ok (.sipush 245, 3) := by decide +kernel
theorem dX3_mixDestination_87 : decode cX3_mixDestination 87 = .ok (.iload_n 2, 1) := by decide +kernel
theorem dX3_mixDestination_88 : decode cX3_mixDestination 88 = .ok (.iadd, 1) := by decide +kernel
theorem dX3_mixDestination_89 : decode cX3_mixDestination 89 = .ok (.iaload, 1) := by decide +kernel
theorem dX3_mixDestination_90 : decode cX3_mixDestination 90 = .ok (.ifCond .le 7, 3) := by decide +kernel
theorem dX3_mixDestination_93 : decode cX3_mixDestination 93 = .ok (.iconst 1, 1) := by decide +kernel
theorem dX3_mixDestination_94 : decode cX3_mixDestination 94 = .ok (.goto 4, 3) := by decide +kernel
theorem dX3_mixDestination_97 : decode cX3_mixDestination 97 = .ok (.iconst 0, 1) := by decide +kernel
theorem dX3_mixDestination_98 : decode cX3_mixDestination 98 = .ok (.invokevirtual 95, 3) := by decide +kernel
theorem dX3_mixDestination_101 : decode cX3_mixDestination 101 = .ok (.iinc 2 1, 3) := by decide +kernel
theorem dX3_mixDestination_104 : decode cX3_mixDestination 104 = .ok (.goto (-45), 3) := by decide +kernel
theorem dX3_mixDestination_107 : decode cX3_mixDestination 107 = .ok (.return_, 1) := by decide +kernel
theorem dX3_digest_0 : decode cX3_digest 0 = .ok (.aload_n 0, 1) := by decide +kernel
theorem dX3_digest_1 : decode cX3_digest 1 = .ok (.ldc2_w 98, 3) := by decide +kernel
theorem dX3_digest_4 : decode cX3_digest 4 = .ok (.putfield 91, 3) := by decide +kernel
theorem dX3_digest_7 : decode cX3_digest 7 = .ok (.iconst 0, 1) := by decide +kernel
theorem dX3_digest_8 : decode cX3_digest 8 = .ok (.istore_n 1, 1) := by decide +kernel
theorem dX3_digest_9 : decode cX3_digest 9 = .ok (.iload_n 1, 1) := by decide +kernel
theorem dX3_digest_10 : decode cX3_digest 10 = .ok (.iconst 3, 1) := by decide +kernel
theorem dX3_digest_11 : decode cX3_digest 11 = .ok (.if_icmp .ge 19, 3) := by decide +kernel
theorem dX3_digest_14 : decode cX3_digest 14 = .ok (.aload_n 0, 1) := by decide +kernel
theorem dX3_digest_15 : decode cX3_digest 15 = .ok (.aload_n 0, 1) := by decide +kernel
theorem dX3_digest_16 : decode cX3_digest 16 = .ok (.getfield 16, 3) := by decide +kernel
theorem dX3_digest_19 : decode cX3_digest 19 = .ok (.iload_n 1, 1) := by decide +kernel
theorem dX3_digest_20 : decode cX3_digest 20 = .ok (.iaload, 1) := by decide +kernel
theorem dX3_digest_21 : decode cX3_digest 21 = .ok (.invokevirtual 95, 3) := by decide +kernel
theorem dX3_digest_24 : decode cX3_digest 24 = .ok (.iinc 1 1, 3) := by decide +kernel
theorem dX3_digest_27 : decode cX3_digest 27 = .ok (.goto (-18), 3) := by decide +kernel
theorem dX3_digest_30 : decode cX3_digest 30 = .ok (.aload_n 0, 1) := by decide +kernel
theorem dX3_digest_31 : decode cX3_digest 31 = .ok (.aload_n 0, 1) := by decide +kernel
theorem dX3_digest_32 : decode cX3_digest 32 = .ok (.getfield 25, 3) := by decide +kernel
theorem dX3_digest_35 : decode cX3_digest 35 = .ok (.invokevirtual 95, 3) := by decide +kernel
theorem dX3_digest_38 : decode cX3_digest 38 = .ok (.sipush 462, 3) := by decide +kernel
theorem dX3_digest_41 : decode cX3_digest 41 = .ok (.istore_n 1, 1) := by decide +kernel
theorem dX3_digest_42 : decode cX3_digest 42 = .ok (.iload_n 1, 1) := by decide +kernel
theorem dX3_digest_43 : decode cX3_digest 43 = .ok (.sipush 469, 3) := by decide +kernel
theorem dX3_digest_46 : decode cX3_digest 46 = .ok (.if_icmp .gt 19, 3) := by decide +kernel
theorem dX3_digest_49 : decode cX3_digest 49 = .ok (.aload_n 0, 1) := by decide +kernel
theorem dX3_digest_50 : decode cX3_digest 50 = .ok (.aload_n 0, 1) := by decide +kernel
theorem dX3_digest_51 : decode cX3_digest 51 = .ok (.getfield 7, 3) := by decide +kernel
theorem dX3_digest_54 : decode cX3_digest 54 = .ok (.iload_n 1, 1) := by decide +kernel
theorem dX3_digest_55 : decode cX3_digest 55 = .ok (.iaload, 1) := by decide +kernel
theorem dX3_digest_56 : decode cX3_digest 56 = .ok (.invokevirtual 95, 3) := by decide +kernel
theorem dX3_digest_59 : decode cX3_digest 59 = .ok (.iinc 1 1, 3) := by decide +kernel
theorem dX3_digest_62 : decode cX3_digest 62 = .ok (.goto (-20), 3) := by decide +kernel
theorem dX3_digest_65 : decode cX3_digest 65 = .ok (.aload_n 0, 1) := by decide +kernel
theorem dX3_digest_66 : decode cX3_digest 66 = .ok (.aload_n 0, 1) := by decide +kernel
theorem dX3_digest_67 : decode cX3_digest 67 = .ok (.getfield 7, 3) := by decide +kernel
theorem dX3_digest_70 : decode cX3_digest 70 = .ok (.iconst 0, 1) := by decide +kernel
theorem dX3_digest_71 : decode cX3_digest 71 = .ok (.iaload, 1) := by decide +kernel
theorem dX3_digest_72 : decode cX3_digest 72 = .ok (.invokevirtual 95, 3) := by decide +kernel
theorem dX3_digest_75 : decode cX3_digest 75 = .ok (.iconst 0, 1) := by decide +kernel
theorem dX3_digest_76 : decode cX3_digest 76 = .ok (.istore_n 1, 1) := by decide +kernel
theorem dX3_digest_77 : decode cX3_digest 77 = .ok (.iload_n 1, 1) := by decide +kernel
theorem dX3_digest_78 : decode cX3_digest 78 = .ok (.aload_n 0, 1) := by decide +kernel
theorem dX3_digest_79 : decode cX3_digest 79 = .ok (.getfield 7, 3) := by decide +kernel
theorem dX3_digest_82 : decode cX3_digest 82 = .ok (.iconst 0, 1) := by decide +kernel
theorem dX3_digest_83 : decode cX3_digest 83 = .ok (.iaload, 1) := by decide +kernel
theorem dX3_digest_84 : decode cX3_digest 84 = .ok (.if_icmp .ge 50, 3) := by decide +kernel
theorem dX3_digest_87 : decode cX3_digest 87 = .ok (.aload_n 0, 1) := by decide +kernel
theorem dX3_digest_88 : decode cX3_digest 88 = .ok (.aload_n 0, 1) := by decide +kernel
theorem dX3_digest_89 : decode cX3_digest 89 = .ok (.getfield 7, 3) := by decide +kernel
theorem dX3_digest_92 : decode cX3_digest 92 = .ok (.iconst 1, 1) := by decide +kernel
theorem dX3_digest_93 : decode cX3_digest 93 = .ok (.iload_n 1, 1) := by decide +kernel
theorem dX3_digest_94 : decode cX3_digest 94 = .ok (.iadd, 1) := by decide +kernel
theorem dX3_digest_95 : decode cX3_digest 95 = .ok (.iaload, 1) := by decide +kernel
theorem dX3_digest_96 : decode cX3_digest 96 = .ok (.invokevirtual 95, 3) := by decide +kernel
theorem dX3_digest_99 : decode cX3_digest 99 = .ok (.iconst 0, 1) := by decide +kernel
theorem dX3_digest_100 : decode cX3_digest 100 = .ok (.istore_n 2, 1) := by decide +kernel
theorem dX3_digest_101 : decode cX3_digest 101 = .ok (.iload_n 2, 1) := by decide +kernel
theorem dX3_digest_102 : decode cX3_digest 102 = .ok (.aload_n 0, 1) := by decide +kernel
theorem dX3_digest_103 : decode cX3_digest 103 = .ok (.getfield 7, 3) := by decide +kernel
theorem dX3_digest_106 : decode cX3_digest 106 = .ok (.iconst 1, 1) := by decide +kernel
theorem dX3_digest_107 : decode cX3_digest 107 = .ok (.iload_n 1, 1) := by decide +kernel
theorem dX3_digest_108 : decode cX3_digest 108 = .ok (.iadd, 1) := by decide +kernel
theorem dX3_digest_109 : decode cX3_digest 109 = .ok (.iaload, 1) := by decide +kernel
theorem dX3_digest_110 : decode cX3_digest 110 = .ok (.if_icmp .ge 18, 3) := by decide +kernel
theorem dX3_digest_113 : decode cX3_digest 113 = .ok (.aload_n 0, 1) := by decide +kernel
theorem dX3_digest_114 : decode cX3_digest 114 = .ok (.iconst 4, 1) := by decide +kernel
theorem dX3_digest_115 : decode cX3_digest 115 = .ok (.iload_n 1, 1) := by decide +kernel
theorem dX3_digest_116 : decode cX3_digest 116 = .ok (.imul, 1) := by decide +kernel
theorem dX3_digest_117 : decode cX3_digest 117 = .ok (.iload_n 2, 1) := by decide +kernel
theorem dX3_digest_118 : decode cX3_digest 118 = .ok (.iadd, 1) := by decide +kernel
theorem dX3_digest_119 : decode cX3_digest 119 = .ok (.invokevirtual 100, 3) := by decide +kernel
theorem dX3_digest_122 : decode cX3_digest 122 = .ok (.iinc 2 1, 3) := by decide +kernel
theorem dX3_digest_125 : decode cX3_digest 125 = .ok (.goto (-24), 3) := by decide +kernel
theorem dX3_digest_128 : decode cX3_digest 128 = .ok (.iinc 1 1, 3) := by decide +kernel
theorem dX3_digest_131 : decode cX3_digest 131 = .ok (.goto (-54), 3) := by decide +kernel
theorem dX3_digest_134 : decode cX3_digest 134 = .ok (.iconst 0, 1) := by decide +kernel
theorem dX3_digest_135 : decode cX3_digest 135 = .ok (.istore_n 1, 1) := by decide +kernel
theorem dX3_digest_136 : decode cX3_digest 136 = .ok (.iload_n 1, 1) := by decide +kernel
theorem dX3_digest_137 : decode cX3_digest 137 = .ok (.bipush 6, 2) := by decide +kernel
theorem dX3_digest_139 : decode cX3_digest 139 = .ok (.if_icmp .ge 14, 3) := by decide +kernel
theorem dX3_digest_142 : decode cX3_digest 142 = .ok (.aload_n 0, 1) := by decide +kernel
theorem dX3_digest_143 : decode cX3_digest 143 = .ok (.iload_n 1, 1) := by decide +kernel
theorem dX3_digest_144 : decode cX3_digest 144 = .ok (.invokevirtual 103, 3) := by decide +kernel
theorem dX3_digest_147 : decode cX3_digest 147 = .ok (.iinc 1 1, 3) := by decide +kernel
theorem dX3_digest_150 : decode cX3_digest 150 = .ok (.goto (-14), 3) := by decide +kernel
theorem dX3_digest_153 : decode cX3_digest 153 = .ok (.aload_n 0, 1) := by decide +kernel
theorem dX3_digest_154 : decode cX3_digest 154 = .ok (.aload_n 0, 1) := by decide +kernel
theorem dX3_digest_155 : decode cX3_digest 155 = .ok (.getfield 7, 3) := by decide +kernel
theorem dX3_digest_158 : decode cX3_digest 158 = .ok (.sipush 341, 3) := by decide +kernel
theorem dX3_digest_161 : decode cX3_digest 161 = .ok (.iaload, 1) := by decide +kernel
theorem dX3_digest_162 : decode cX3_digest 162 = .ok (.invokevirtual 95, 3) := by decide +kernel
theorem dX3_digest_165 : decode cX3_digest 165 = .ok (.iconst 0, 1) := by decide +kernel
theorem dX3_digest_166 : decode cX3_digest 166 = .ok (.istore_n 1, 1) := by decide +kernel
theorem dX3_digest_167 : decode cX3_digest 167 = .ok (.iload_n 1, 1) := by decide +kernel
theorem dX3_digest_168 : decode cX3_digest 168 = .ok (.aload_n 0, 1) := by decide +kernel
theorem dX3_digest_169 : decode cX3_digest 169 = .ok (.getfield 7, 3) := by decide +kernel
theorem dX3_digest_172 : decode cX3_digest 172 = .ok (.sipush 341, 3) := by decide +kernel
theorem dX3_digest_175 : decode cX3_digest 175 = .ok (.iaload, 1) := by decide +kernel
theorem dX3_digest_176 : decode cX3_digest 176 = .ok (.if_icmp .ge 27, 3) := by decide +kernel
theorem dX3_digest_179 : decode cX3_digest 179 = .ok (.aload_n 0, 1) := by decide +kernel
theorem dX3_digest_180 : decode cX3_digest 180 = .ok (.aload_n 0, 1) := by decide +kernel
theorem dX3_digest_181 : decode cX3_digest 181 = .ok (.getfield 7, 3) := by decide +kernel
theorem dX3_digest_184 : decode cX3_digest 184 = .ok (.sipush 342, 3) := by decide +kernel
theorem dX3_digest_187 : decode cX3_digest 187 = .ok (.iload_n 1, 1) := by decide +kernel
theorem dX3_digest_188 : decode cX3_digest 188 = .ok (.iadd, 1) := by decide +kernel
theorem dX3_digest_189 : decode cX3_digest 189 = .ok (.iaload, 1) := by decide +kernel
theorem dX3_digest_190 : decode cX3_digest 190 = .ok (.sipush 128, 3) := by decide +kernel
theorem dX3_digest_193 : decode cX3_digest 193 = .ok (.idiv, 1) := by decide +kernel
theorem dX3_digest_194 : decode cX3_digest 194 = .ok (.invokevirtual 95, 3) := by decide +kernel
theorem dX3_digest_197 : decode cX3_digest 197 = .ok (.iinc 1 1, 3) := by decide +kernel
theorem dX3_digest_200 : decode cX3_digest 200 = .ok (.goto (-33), 3) := by decide +kernel
theorem dX3_digest_203 : decode cX3_digest 203 = .ok (.aload_n 0, 1) := by decide +kernel
theorem dX3_digest_204 : decode cX3_digest 204 = .ok (.getfield 91, 3) := by decide +kernel
theorem dX3_digest_207 : decode cX3_digest 207 = .ok (.lreturn, 1) := by decide +kernel
theorem dJ6_bitCount_0f7a4_0 : decode cJ6_bitCount_0f7a4 0 = .ok (.iload_n 0, 1) := by decide +kernel
theorem dJ6_bitCount_0f7a4_1 : decode cJ6_bitCount_0f7a4 1 = .ok (.iload_n 0, 1) := by decide +kernel
theorem dJ6_bitCount_0f7a4_2 : decode cJ6_bitCount_0f7a4 2 = .ok (.iconst 1, 1) := by decide +kernel
theorem dJ6_bitCount_0f7a4_3 : decode cJ6_bitCount_0f7a4 3 = .ok (.iushr, 1) := by decide +kernel
theorem dJ6_bitCount_0f7a4_4 : decode cJ6_bitCount_0f7a4 4 = .ok (.ldc_w 265, 3) := by decide +kernel
theorem dJ6_bitCount_0f7a4_7 : decode cJ6_bitCount_0f7a4 7 = .ok (.iand, 1) := by decide +kernel
theorem dJ6_bitCount_0f7a4_8 : decode cJ6_bitCount_0f7a4 8 = .ok (.isub, 1) := by decide +kernel
theorem dJ6_bitCount_0f7a4_9 : decode cJ6_bitCount_0f7a4 9 = .ok (.istore_n 0, 1) := by decide +kernel
theorem dJ6_bitCount_0f7a4_10 : decode cJ6_bitCount_0f7a4 10 = .ok (.iload_n 0, 1) := by decide +kernel
theorem dJ6_bitCount_0f7a4_11 : decode cJ6_bitCount_0f7a4 11 = .ok (.ldc_w 266, 3) := by decide +kernel
theorem dJ6_bitCount_0f7a4_14 : decode cJ6_bitCount_0f7a4 14 = .ok (.iand, 1) := by decide +kernel
theorem dJ6_bitCount_0f7a4_15 : decode cJ6_bitCount_0f7a4 15 = .ok (.iload_n 0, 1) := by decide +kernel
theorem dJ6_bitCount_0f7a4_16 : decode cJ6_bitCount_0f7a4 16 = .ok (.iconst 2, 1) := by decide +kernel
theorem dJ6_bitCount_0f7a4_17 : decode cJ6_bitCount_0f7a4 17 = .ok (.iushr, 1) := by decide +kernel
theorem dJ6_bitCount_0f7a4_18 : decode cJ6_bitCount_0f7a4 18 = .ok (.ldc_w 266, 3) := by decide +kernel
theorem dJ6_bitCount_0f7a4_21 : decode cJ6_bitCount_0f7a4 21 = .ok (.iand, 1) := by decide +kernel
theorem dJ6_bitCount_0f7a4_22 : decode cJ6_bitCount_0f7a4 22 = .ok (.iadd, 1) := by decide +kernel
theorem dJ6_bitCount_0f7a4_23 : decode cJ6_bitCount_0f7a4 23 = .ok (.istore_n 0, 1) := by decide +kernel
theorem dJ6_bitCount_0f7a4_24 : decode cJ6_bitCount_0f7a4 24 = .ok (.iload_n 0, 1) := by decide +kernel
theorem dJ6_bitCount_0f7a4_25 : decode cJ6_bitCount_0f7a4 25 = .ok (.iload_n 0, 1) := by decide +kernel
theorem dJ6_bitCount_0f7a4_26 : decode cJ6_bitCount_0f7a4 26 = .ok (.iconst 4, 1) := by decide +kernel
theorem dJ6_bitCount_0f7a4_27 : decode cJ6_bitCount_0f7a4 27 = .ok (.iushr, 1) := by decide +kernel
theorem dJ6_bitCount_0f7a4_28 : decode cJ6_bitCount_0f7a4 28 = .ok (.iadd, 1) := by decide +kernel
theorem dJ6_bitCount_0f7a4_29 : decode cJ6_bitCount_0f7a4 29 = .ok (.ldc_w 267, 3) := by decide +kernel
theorem dJ6_bitCount_0f7a4_32 : decode cJ6_bitCount_0f7a4 32 = .ok (.iand, 1) := by decide +kernel
theorem dJ6_bitCount_0f7a4_33 : decode cJ6_bitCount_0f7a4 33 = .ok (.istore_n 0, 1) := by decide +kernel
theorem dJ6_bitCount_0f7a4_34 : decode cJ6_bitCount_0f7a4 34 = .ok (.iload_n 0, 1) := by decide +kernel
theorem dJ6_bitCount_0f7a4_35 : decode cJ6_bitCount_0f7a4 35 = .ok (.iload_n 0, 1) := by decide +kernel
theorem dJ6_bitCount_0f7a4_36 : decode cJ6_bitCount_0f7a4 36 = .ok (.bipush 8, 2) := by decide +kernel
theorem dJ6_bitCount_0f7a4_38 : decode cJ6_bitCount_0f7a4 38 = .ok (.iushr, 1) := by decide +kernel
theorem dJ6_bitCount_0f7a4_39 : decode cJ6_bitCount_0f7a4 39 = .ok (.iadd, 1) := by decide +kernel
theorem dJ6_bitCount_0f7a4_40 : decode cJ6_bitCount_0f7a4 40 = .ok (.istore_n 0, 1) := by decide +kernel
theorem dJ6_bitCount_0f7a4_41 : decode cJ6_bitCount_0f7a4 41 = .ok (.iload_n 0, 1) := by decide +kernel
theorem dJ6_bitCount_0f7a4_42 : decode cJ6_bitCount_0f7a4 42 = .ok (.iload_n 0, 1) := by decide +kernel
theorem dJ6_bitCount_0f7a4_43 : decode cJ6_bitCount_0f7a4 43 = .ok (.bipush 16, 2) := by decide +kernel
theorem dJ6_bitCount_0f7a4_45 : decode cJ6_bitCount_0f7a4 45 = .ok (.iushr, 1) := by decide +kernel
theorem dJ6_bitCount_0f7a4_46 : decode cJ6_bitCount_0f7a4 46 = .ok (.iadd, 1) := by decide +kernel
theorem dJ6_bitCount_0f7a4_47 : decode cJ6_bitCount_0f7a4 47 = .ok (.istore_n 0, 1) := by decide +kernel
theorem dJ6_bitCount_0f7a4_48 : decode cJ6_bitCount_0f7a4 48 = .ok (.iload_n 0, 1) := by decide +kernel
theorem dJ6_bitCount_0f7a4_49 : decode cJ6_bitCount_0f7a4 49 = .ok (.bipush 63, 2) := by decide +kernel
theorem dJ6_bitCount_0f7a4_51 : decode cJ6_bitCount_0f7a4 51 = .ok (.iand, 1) := by decide +kernel
theorem dJ6_bitCount_0f7a4_52 : decode cJ6_bitCount_0f7a4 52 = .ok (.ireturn, 1) := by decide +kernel
theorem dJ9_floorDiv_7cf53_0 : decode cJ9_floorDiv_7cf53 0 = .ok (.iload_n 0, 1) := by decide +kernel
theorem dJ9_floorDiv_7cf53_1 : decode cJ9_floorDiv_7cf53 1 = .ok (.iload_n 1, 1) := by decide +kernel
theorem dJ9_floorDiv_7cf53_2 : decode cJ9_floorDiv_7cf53 2 = .ok (.idiv, 1) := by decide +kernel
theorem dJ9_floorDiv_7cf53_3 : decode cJ9_floorDiv_7cf53 3 = .ok (.istore_n 2, 1) := by decide +kernel
theorem dJ9_floorDiv_7cf53_4 : decode cJ9_floorDiv_7cf53 4 = .ok (.iload_n 0, 1) := by decide +kernel
theorem dJ9_floorDiv_7cf53_5 : decode cJ9_floorDiv_7cf53 5 = .ok (.iload_n 1, 1) := by decide +kernel
theorem dJ9_floorDiv_7cf53_6 : decode cJ9_floorDiv_7cf53 6 = .ok (.ixor, 1) := by decide +kernel
theorem dJ9_floorDiv_7cf53_7 : decode cJ9_floorDiv_7cf53 7 = .ok (.ifCond .ge 14, 3) := by decide +kernel
theorem dJ9_floorDiv_7cf53_10 : decode cJ9_floorDiv_7cf53 10 = .ok (.iload_n 2, 1) := by decide +kernel
theorem dJ9_floorDiv_7cf53_11 : decode cJ9_floorDiv_7cf53 11 = .ok (.iload_n 1, 1) := by decide +kernel
theorem dJ9_floorDiv_7cf53_12 : decode cJ9_floorDiv_7cf53 12 = .ok (.imul, 1) := by decide +kernel
theorem dJ9_floorDiv_7cf53_13 : decode cJ9_floorDiv_7cf53 13 = .ok (.iload_n 0, 1) := by decide +kernel
theorem dJ9_floorDiv_7cf53_14 : decode cJ9_floorDiv_7cf53 14 = .ok (.if_icmp .eq 7, 3) := by decide +kernel
theorem dJ9_floorDiv_7cf53_17 : decode cJ9_floorDiv_7cf53 17 = .ok (.iload_n 2, 1) := by decide +kernel
theorem dJ9_floorDiv_7cf53_18 : decode cJ9_floorDiv_7cf53 18 = .ok (.iconst 1, 1) := by decide +kernel
theorem dJ9_floorDiv_7cf53_19 : decode cJ9_floorDiv_7cf53 19 = .ok (.isub, 1) := by decide +kernel
theorem dJ9_floorDiv_7cf53_20 : decode cJ9_floorDiv_7cf53 20 = .ok (.ireturn, 1) := by decide +kernel
theorem dJ9_floorDiv_7cf53_21 : decode cJ9_floorDiv_7cf53 21 = .ok (.iload_n 2, 1) := by decide +kernel
theorem dJ9_floorDiv_7cf53_22 : decode cJ9_floorDiv_7cf53 22 = .ok (.ireturn, 1) := by decide +kernel
theorem dJ9_floorMod_7cf53_0 : decode cJ9_floorMod_7cf53 0 = .ok (.iload_n 0, 1) := by decide +kernel
theorem dJ9_floorMod_7cf53_1 : decode cJ9_floorMod_7cf53 1 = .ok (.iload_n 1, 1) := by decide +kernel
theorem dJ9_floorMod_7cf53_2 : decode cJ9_floorMod_7cf53 2 = .ok (.irem, 1) := by decide +kernel
theorem dJ9_floorMod_7cf53_3 : decode cJ9_floorMod_7cf53 3 = .ok (.istore_n 2, 1) := by decide +kernel
theorem dJ9_floorMod_7cf53_4 : decode cJ9_floorMod_7cf53 4 = .ok (.iload_n 0, 1) := by decide +kernel
theorem dJ9_floorMod_7cf53_5 : decode cJ9_floorMod_7cf53 5 = .ok (.iload_n 1, 1) := by decide +kernel
theorem dJ9_floorMod_7cf53_6 : decode cJ9_floorMod_7cf53 6 = .ok (.ixor, 1) := by decide +kernel
theorem dJ9_floorMod_7cf53_7 : decode cJ9_floorMod_7cf53 7 = .ok (.ifCond .ge 11, 3) := by decide +kernel
theorem dJ9_floorMod_7cf53_10 : decode cJ9_floorMod_7cf53 10 = .ok (.iload_n 2, 1) := by decide +kernel
theorem dJ9_floorMod_7cf53_11 : decode cJ9_floorMod_7cf53 11 = .ok (.ifCond .eq 7, 3) := by decide +kernel
theorem dJ9_floorMod_7cf53_14 : decode cJ9_floorMod_7cf53 14 = .ok (.iload_n 2, 1) := by decide +kernel
theorem dJ9_floorMod_7cf53_15 : decode cJ9_floorMod_7cf53 15 = .ok (.iload_n 1, 1) := by decide +kernel
theorem dJ9_floorMod_7cf53_16 : decode cJ9_floorMod_7cf53 16 = .ok (.iadd, 1) := by decide +kernel
theorem dJ9_floorMod_7cf53_17 : decode cJ9_floorMod_7cf53 17 = .ok (.ireturn, 1) := by decide +kernel
theorem dJ9_floorMod_7cf53_18 : decode cJ9_floorMod_7cf53 18 = .ok (.iload_n 2, 1) := by decide +kernel
theorem dJ9_floorMod_7cf53_19 : decode cJ9_floorMod_7cf53 19 = .ok (.ireturn, 1) := by decide +kernel
theorem dJ9_min_7cf53_0 : decode cJ9_min_7cf53 0 = .ok (.iload_n 0, 1) := by decide +kernel
theorem dJ9_min_7cf53_1 : decode cJ9_min_7cf53 1 = .ok (.iload_n 1, 1) := by decide +kernel
theorem dJ9_min_7cf53_2 : decode cJ9_min_7cf53 2 = .ok (.if_icmp .gt 7, 3) := by decide +kernel
theorem dJ9_min_7cf53_5 : decode cJ9_min_7cf53 5 = .ok (.iload_n 0, 1) := by decide +kernel
theorem dJ9_min_7cf53_6 : decode cJ9_min_7cf53 6 = .ok (.goto 4, 3) := by decide +kernel
theorem dJ9_min_7cf53_9 : decode cJ9_min_7cf53 9 = .ok (.iload_n 1, 1) := by decide +kernel
theorem dJ9_min_7cf53_10 : decode cJ9_min_7cf53 10 = .ok (.ireturn, 1) := by decide +kernel
theorem dJ7_fill_53178_0 : decode cJ7_fill_53178 0 = .ok (.iconst 0, 1) := by decide +kernel
theorem dJ7_fill_53178_1 : decode cJ7_fill_53178 1 = .ok (.istore_n 2, 1) := by decide +kernel
theorem dJ7_fill_53178_2 : decode cJ7_fill_53178 2 = .ok (.aload_n 0, 1) := by decide +kernel
theorem dJ7_fill_53178_3 : decode cJ7_fill_53178 3 = .ok (.arraylength, 1) := by decide +kernel
theorem dJ7_fill_53178_4 : decode cJ7_fill_53178 4 = .ok (.istore_n 3, 1) := by decide +kernel
theorem dJ7_fill_53178_5 : decode cJ7_fill_53178 5 = .ok (.iload_n 2, 1) := by decide +kernel
theorem dJ7_fill_53178_6 : decode cJ7_fill_53178 6 = .ok (.iload_n 3, 1) := by decide +kernel
theorem dJ7_fill_53178_7 : decode cJ7_fill_53178 7 = .ok (.if_icmp .ge 13, 3) := by decide +kernel
theorem dJ7_fill_53178_10 : decode cJ7_fill_53178 10 = .ok (.aload_n 0, 1) := by decide +kernel
theorem dJ7_fill_53178_11 : decode cJ7_fill_53178 11 = .ok (.iload_n 2, 1) := by decide +kernel
theorem dJ7_fill_53178_12 : decode cJ7_fill_53178 12 = .ok (.iload_n 1, 1) := by decide +kernel
theorem dJ7_fill_53178_13 : decode cJ7_fill_53178 13 = .ok (.iastore, 1) := by decide +kernel
theorem dJ7_fill_53178_14 : decode cJ7_fill_53178 14 = .ok (.iinc 2 1, 3) := by decide +kernel
theorem dJ7_fill_53178_17 : decode cJ7_fill_53178 17 = .ok (.goto (-12), 3) := by decide +kernel
theorem dJ7_fill_53178_20 : decode cJ7_fill_53178 20 = .ok (.return_, 1) := by decide +kernel
theorem dL_law_0 : decode cL_law 0 = .ok (.new 7, 3) := by decide +kernel
theorem dL_law_3 : decode cL_law 3 = .ok (.dup, 1) := by decide +kernel
theorem dL_law_4 : decode cL_law 4 = .ok (.invokespecial 9, 3) := by decide +kernel
theorem dL_law_7 : decode cL_law 7 = .ok (.astore_n 1, 1) := by decide +kernel
theorem dL_law_8 : decode cL_law 8 = .ok (.new 10, 3) := by decide +kernel
theorem dL_law_11 : decode cL_law 11 = .ok (.dup, 1) := by decide +kernel
theorem dL_law_12 : decode cL_law 12 = .ok (.invokespecial 12, 3) := by decide +kernel
theorem dL_law_15 : decode cL_law 15 = .ok (.astore_n 2, 1) := by decide +kernel
theorem dL_law_16 : decode cL_law 16 = .ok (.iconst 0, 1) := by decide +kernel
theorem dL_law_17 : decode cL_law 17 = .ok (.istore_n 3, 1) := by decide +kernel
theorem dL_law_18 : decode cL_law 18 = .ok (.iload_n 3, 1) := by decide +kernel
theorem dL_law_19 : decode cL_law 19 = .ok (.aload_n 0, 1) := by decide +kernel
theorem dL_law_20 : decode cL_law 20 = .ok (.arraylength, 1) := by decide +kernel
theorem dL_law_21 : decode cL_law 21 = .ok (.iconst 4, 1) := by decide +kernel
theorem dL_law_22 : decode cL_law 22 = .ok (.isub, 1) := by decide +kernel
theorem dL_law_23 : decode cL_law 23 = .ok (.if_icmp .gt 905, 3) := by decide +kernel
theorem dL_law_26 : decode cL_law 26 = .ok (.aload_n 0, 1) := by decide +kernel
theorem dL_law_27 : decode cL_law 27 = .ok (.iload_n 3, 1) := by decide +kernel
theorem dL_law_28 : decode cL_law 28 = .ok (.iaload, 1) := by decide +kernel
theorem dL_law_29 : decode cL_law 29 = .ok (.bipush 31, 2) := by decide +kernel
theorem dL_law_31 : decode cL_law 31 = .ok (.iand, 1) := by decide +kernel
theorem dL_law_32 : decode cL_law 32 = .ok (.tableswitch 890 0 28 #[132, 155, 188, 221, 264, 297, 340, 373, 406, 449, 482, 525, 558, 581, 614, 657, 680, 693, 706, 739, 752, 765, 778, 791, 804, 817, 840, 853, 876], 132) := by decide +kernel
theorem dL_law_164 : decode cL_law 164 = .ok (.aload_n 1, 1) := by decide +kernel
theorem dL_law_165 : decode cL_law 165 = .ok (.aload_n 0, 1) := by decide +kernel
theorem dL_law_166 : decode cL_law 166 = .ok (.iload_n 3, 1) := by decide +kernel
theorem dL_law_167 : decode cL_law 167 = .ok (.iconst 1, 1) := by decide +kernel
theorem dL_law_168 : decode cL_law 168 = .ok (.iadd, 1) := by decide +kernel
theorem dL_law_169 : decode cL_law 169 = .ok (.iaload, 1) := by decide +kernel
theorem dL_law_170 : decode cL_law 170 = .ok (.invokevirtual 13, 3) := by decide +kernel
theorem dL_law_173 : decode cL_law 173 = .ok (.aload_n 2, 1) := by decide +kernel
theorem dL_law_174 : decode cL_law 174 = .ok (.aload_n 0, 1) := by decide +kernel
theorem dL_law_175 : decode cL_law 175 = .ok (.iload_n 3, 1) := by decide +kernel
theorem dL_law_176 : decode cL_law 176 = .ok (.iconst 1, 1) := by decide +kernel
theorem dL_law_177 : decode cL_law 177 = .ok (.iadd, 1) := by decide +kernel
theorem dL_law_178 : decode cL_law 178 = .ok (.iaload, 1) := by decide +kernel
theorem dL_law_179 : decode cL_law 179 = .ok (.invokevirtual 17, 3) := by decide +kernel
theorem dL_law_182 : decode cL_law 182 = .ok (.if_icmp .eq 740, 3) := by decide +kernel
theorem dL_law_185 : decode cL_law 185 = .ok (.iconst 0, 1) := by decide +kernel
theorem dL_law_186 : decode cL_law 186 = .ok (.ireturn, 1) := by decide +kernel
theorem dL_law_187 : decode cL_law 187 = .ok (.aload_n 1, 1) := by decide +kernel
theorem dL_law_188 : decode cL_law 188 = .ok (.aload_n 0, 1) := by decide +kernel
theorem dL_law_189 : decode cL_law 189 = .ok (.iload_n 3, 1) := by decide +kernel
theorem dL_law_190 : decode cL_law 190 = .ok (.iconst 1, 1) := by decide +kernel
theorem dL_law_191 : decode cL_law 191 = .ok (.iadd, 1) := by decide +kernel
theorem dL_law_192 : decode cL_law 192 = .ok (.iaload, 1) := by decide +kernel
theorem dL_law_193 : decode cL_law 193 = .ok (.aload_n 0, 1) := by decide +kernel
theorem dL_law_194 : decode cL_law 194 = .ok (.iload_n 3, 1) := by decide +kernel
theorem dL_law_195 : decode cL_law 195 = .ok (.iconst 2, 1) := by decide +kernel
theorem dL_law_196 : decode cL_law 196 = .ok (.iadd, 1) := by decide +kernel
theorem dL_law_197 : decode cL_law 197 = .ok (.iaload, 1) := by decide +kernel
theorem dL_law_198 : decode cL_law 198 = .ok (.invokevirtual 18, 3) := by decide +kernel
theorem dL_law_201 : decode cL_law 201 = .ok (.aload_n 2, 1) := by decide +kernel
theorem dL_law_202 : decode cL_law 202 = .ok (.aload_n 0, 1) := by decide +kernel
theorem dL_law_203 : decode cL_law 203 = .ok (.iload_n 3, 1) := by decide +kernel
theorem dL_law_204 : decode cL_law 204 = .ok (.iconst 1, 1) := by decide +kernel
theorem dL_law_205 : decode cL_law 205 = .ok (.iadd, 1) := by decide +kernel
theorem dL_law_206 : decode cL_law 206 = .ok (.iaload, 1) := by decide +kernel
theorem dL_law_207 : decode cL_law 207 = .ok (.aload_n 0, 1) := by decide +kernel
theorem dL_law_208 : decode cL_law 208 = .ok (.iload_n 3, 1) := by decide +kernel
theorem dL_law_209 : decode cL_law 209 = .ok (.iconst 2, 1) := by decide +kernel
theorem dL_law_210 : decode cL_law 210 = .ok (.iadd, 1) := by decide +kernel
theorem dL_law_211 : decode cL_law 211 = .ok (.iaload, 1) := by decide +kernel
theorem dL_law_212 : decode cL_law 212 = .ok (.invokevirtual 22, 3) := by decide +kernel
theorem dL_law_215 : decode cL_law 215 = .ok (.if_icmp .eq 707, 3) := by decide +kernel
theorem dL_law_218 : decode cL_law 218 = .ok (.iconst 0, 1) := by decide +kernel
theorem dL_law_219 : decode cL_law 219 = .ok (.ireturn, 1) := by decide +kernel
theorem dL_law_220 : decode cL_law 220 = .ok (.aload_n 1, 1) := by decide +kernel
theorem dL_law_221 : decode cL_law 221 = .ok (.aload_n 0, 1) := by decide +kernel
theorem dL_law_222 : decode cL_law 222 = .ok (.iload_n 3, 1) := by decide +kernel
theorem dL_law_223 : decode cL_law 223 = .ok (.iconst 1, 1) := by decide +kernel
theorem dL_law_224 : decode cL_law 224 = .ok (.iadd, 1) := by decide +kernel
theorem dL_law_225 : decode cL_law 225 = .ok (.iaload, 1) := by decide +kernel
theorem dL_law_226 : decode cL_law 226 = .ok (.aload_n 0, 1) := by decide +kernel
theorem dL_law_227 : decode cL_law 227 = .ok (.iload_n 3, 1) := by decide +kernel
theorem dL_law_228 : decode cL_law 228 = .ok (.iconst 2, 1) := by decide +kernel
theorem dL_law_229 : decode cL_law 229 = .ok (.iadd, 1) := by decide +kernel
theorem dL_law_230 : decode cL_law 230 = .ok (.iaload, 1) := by decide +kernel
theorem dL_law_231 : decode cL_law 231 = .ok (.invokevirtual 23, 3) := by decide +kernel
theorem dL_law_234 : decode cL_law 234 = .ok (.aload_n 2, 1) := by decide +kernel
theorem dL_law_235 : decode cL_law 235 = .ok (.aload_n 0, 1) := by decide +kernel
theorem dL_law_236 : decode cL_law 236 = .ok (.iload_n 3, 1) := by decide +kernel
theorem dL_law_237 : decode cL_law 237 = .ok (.iconst 1, 1) := by decide +kernel
theorem dL_law_238 : decode cL_law 238 = .ok (.iadd, 1) := by decide +kernel
theorem dL_law_239 : decode cL_law 239 = .ok (.iaload, 1) := by decide +kernel
theorem dL_law_240 : decode cL_law 240 = .ok (.aload_n 0, 1) := by decide +kernel
theorem dL_law_241 : decode cL_law 241 = .ok (.iload_n 3, 1) := by decide +kernel
theorem dL_law_242 : decode cL_law 242 = .ok (.iconst 2, 1) := by decide +kernel
theorem dL_law_243 : decode cL_law 243 = .ok (.iadd, 1) := by decide +kernel
theorem dL_law_244 : decode cL_law 244 = .ok (.iaload, 1) := by decide +kernel
theorem dL_law_245 : decode cL_law 245 = .ok (.invokevirtual 26, 3) := by decide +kernel
theorem dL_law_248 : decode cL_law 248 = .ok (.if_icmp .eq 674, 3) := by decide +kernel
theorem dL_law_251 : decode cL_law 251 = .ok (.iconst 0, 1) := by decide +kernel
theorem dL_law_252 : decode cL_law 252 = .ok (.ireturn, 1) := by decide +kernel
theorem dL_law_253 : decode cL_law 253 = .ok (.aload_n 1, 1) := by decide +kernel
theorem dL_law_254 : decode cL_law 254 = .ok (.aload_n 0, 1) := by decide +kernel
theorem dL_law_255 : decode cL_law 255 = .ok (.iload_n 3, 1) := by decide +kernel
theorem dL_law_256 : decode cL_law 256 = .ok (.iconst 1, 1) := by decide +kernel
theorem dL_law_257 : decode cL_law 257 = .ok (.iadd, 1) := by decide +kernel
theorem dL_law_258 : decode cL_law 258 = .ok (.iaload, 1) := by decide +kernel
theorem dL_law_259 : decode cL_law 259 = .ok (.aload_n 0, 1) := by decide +kernel
theorem dL_law_260 : decode cL_law 260 = .ok (.iload_n 3, 1) := by decide +kernel
theorem dL_law_261 : decode cL_law 261 = .ok (.iconst 2, 1) := by decide +kernel
theorem dL_law_262 : decode cL_law 262 = .ok (.iadd, 1) := by decide +kernel
theorem dL_law_263 : decode cL_law 263 = .ok (.iaload, 1) := by decide +kernel
theorem dL_law_264 : decode cL_law 264 = .ok (.aload_n 0, 1) := by decide +kernel
theorem dL_law_265 : decode cL_law 265 = .ok (.iload_n 3, 1) := by decide +kernel
theorem dL_law_266 : decode cL_law 266 = .ok (.iconst 3, 1) := by decide +kernel
theorem dL_law_267 : decode cL_law 267 = .ok (.iadd, 1) := by decide +kernel
theorem dL_law_268 : decode cL_law 268 = .ok (.iaload, 1) := by decide +kernel
theorem dL_law_269 : decode cL_law 269 = .ok (.invokevirtual 27, 3) := by decide +kernel
theorem dL_law_272 : decode cL_law 272 = .ok (.aload_n 2, 1) := by decide +kernel
theorem dL_law_273 : decode cL_law 273 = .ok (.aload_n 0, 1) := by decide +kernel
theorem dL_law_274 : decode cL_law 274 = .ok (.iload_n 3, 1) := by decide +kernel
theorem dL_law_275 : decode cL_law 275 = .ok (.iconst 1, 1) := by decide +kernel
theorem dL_law_276 : decode cL_law 276 = .ok (.iadd, 1) := by decide +kernel
theorem dL_law_277 : decode cL_law 277 = .ok (.iaload, 1) := by decide +kernel
theorem dL_law_278 : decode cL_law 278 = .ok (.aload_n 0, 1) := by decide +kernel
theorem dL_law_279 : decode cL_law 279 = .ok (.iload_n 3, 1) := by decide +kernel
theorem dL_law_280 : decode cL_law 280 = .ok (.iconst 2, 1) := by decide +kernel
theorem dL_law_281 : decode cL_law 281 = .ok (.iadd, 1) := by decide +kernel
theorem dL_law_282 : decode cL_law 282 = .ok (.iaload, 1) := by decide +kernel
theorem dL_law_283 : decode cL_law 283 = .ok (.aload_n 0, 1) := by decide +kernel
theorem dL_law_284 : decode cL_law 284 = .ok (.iload_n 3, 1) := by decide +kernel
theorem dL_law_285 : decode cL_law 285 = .ok (.iconst 3, 1) := by decide +kernel
theorem dL_law_286 : decode cL_law 286 = .ok (.iadd, 1) := by decide +kernel
theorem dL_law_287 : decode cL_law 287 = .ok (.iaload, 1) := by decide +kernel
theorem dL_law_288 : decode cL_law 288 = .ok (.invokevirtual 31, 3) := by decide +kernel
theorem dL_law_291 : decode cL_law 291 = .ok (.if_icmp .eq 631, 3) := by decide +kernel
theorem dL_law_294 : decode cL_law 294 = .ok (.iconst 0, 1) := by decide +kernel
theorem dL_law_295 : decode cL_law 295 = .ok (.ireturn, 1) := by decide +kernel
theorem dL_law_296 : decode cL_law 296 = .ok (.aload_n 1, 1) := by decide +kernel
theorem dL_law_297 : decode cL_law 297 = .ok (.aload_n 0, 1) := by decide +kernel
theorem dL_law_298 : decode cL_law 298 = .ok (.iload_n 3, 1) := by decide +kernel
theorem dL_law_299 : decode cL_law 299 = .ok (.iconst 1, 1) := by decide +kernel
theorem dL_law_300 : decode cL_law 300 = .ok (.iadd, 1) := by decide +kernel
theorem dL_law_301 : decode cL_law 301 = .ok (.iaload, 1) := by decide +kernel
theorem dL_law_302 : decode cL_law 302 = .ok (.aload_n 0, 1) := by decide +kernel
theorem dL_law_303 : decode cL_law 303 = .ok (.iload_n 3, 1) := by decide +kernel
theorem dL_law_304 : decode cL_law 304 = .ok (.iconst 2, 1) := by decide +kernel
theorem dL_law_305 : decode cL_law 305 = .ok (.iadd, 1) := by decide +kernel
theorem dL_law_306 : decode cL_law 306 = .ok (.iaload, 1) := by decide +kernel
theorem dL_law_307 : decode cL_law 307 = .ok (.invokevirtual 32, 3) := by decide +kernel
theorem dL_law_310 : decode cL_law 310 = .ok (.aload_n 2, 1) := by decide +kernel
theorem dL_law_311 : decode cL_law 311 = .ok (.aload_n 0, 1) := by decide +kernel
theorem dL_law_312 : decode cL_law 312 = .ok (.iload_n 3, 1) := by decide +kernel
theorem dL_law_313 : decode cL_law 313 = .ok (.iconst 1, 1) := by decide +kernel
theorem dL_law_314 : decode cL_law 314 = .ok (.iadd, 1) := by decide +kernel
theorem dL_law_315 : decode cL_law 315 = .ok (.iaload, 1) := by decide +kernel
theorem dL_law_316 : decode cL_law 316 = .ok (.aload_n 0, 1) := by decide +kernel
theorem dL_law_317 : decode cL_law 317 = .ok (.iload_n 3, 1) := by decide +kernel
theorem dL_law_318 : decode cL_law 318 = .ok (.iconst 2, 1) := by decide +kernel
theorem dL_law_319 : decode cL_law 319 = .ok (.iadd, 1) := by decide +kernel
theorem dL_law_320 : decode cL_law 320 = .ok (.iaload, 1) := by decide +kernel
theorem dL_law_321 : decode cL_law 321 = .ok (.invokevirtual 35, 3) := by decide +kernel
theorem dL_law_324 : decode cL_law 324 = .ok (.if_icmp .eq 598, 3) := by decide +kernel
theorem dL_law_327 : decode cL_law 327 = .ok (.iconst 0, 1) := by decide +kernel
theorem dL_law_328 : decode cL_law 328 = .ok (.ireturn, 1) := by decide +kernel
theorem dL_law_329 : decode cL_law 329 = .ok (.aload_n 1, 1) := by decide +kernel
theorem dL_law_330 : decode cL_law 330 = .ok (.aload_n 0, 1) := by decide +kernel
theorem dL_law_331 : decode cL_law 331 = .ok (.iload_n 3, 1) := by decide +kernel
theorem dL_law_332 : decode cL_law 332 = .ok (.iconst 1, 1) := by decide +kernel
theorem dL_law_333 : decode cL_law 333 = .ok (.iadd, 1) := by decide +kernel
theorem dL_law_334 : decode cL_law 334 = .ok (.iaload, 1) := by decide +kernel
theorem dL_law_335 : decode cL_law 335 = .ok (.aload_n 0, 1) := by decide +kernel
theorem dL_law_336 : decode cL_law 336 = .ok (.iload_n 3, 1) := by decide +kernel
theorem dL_law_337 : decode cL_law 337 = .ok (.iconst 2, 1) := by decide +kernel
theorem dL_law_338 : decode cL_law 338 = .ok (.iadd, 1) := by decide +kernel
theorem dL_law_339 : decode cL_law 339 = .ok (.iaload, 1) := by decide +kernel
theorem dL_law_340 : decode cL_law 340 = .ok (.aload_n 0, 1) := by decide +kernel
theorem dL_law_341 : decode cL_law 341 = .ok (.iload_n 3, 1) := by decide +kernel
theorem dL_law_342 : decode cL_law 342 = .ok (.iconst 3, 1) := by decide +kernel
theorem dL_law_343 : decode cL_law 343 = .ok (.iadd, 1) := by decide +kernel
theorem dL_law_344 : decode cL_law 344 = .ok (.iaload, 1) := by decide +kernel
theorem dL_law_345 : decode cL_law 345 = .ok (.invokevirtual 36, 3) := by decide +kernel
theorem dL_law_348 : decode cL_law 348 = .ok (.aload_n 2, 1) := by decide +kernel
theorem dL_law_349 : decode cL_law 349 = .ok (.aload_n 0, 1) := by decide +kernel
theorem dL_law_350 : decode cL_law 350 = .ok (.iload_n 3, 1) := by decide +kernel
theorem dL_law_351 : decode cL_law 351 = .ok (.iconst 1, 1) := by decide +kernel
theorem dL_law_352 : decode cL_law 352 = .ok (.iadd, 1) := by decide +kernel
theorem dL_law_353 : decode cL_law 353 = .ok (.iaload, 1) := by decide +kernel
theorem dL_law_354 : decode cL_law 354 = .ok (.aload_n 0, 1) := by decide +kernel
theorem dL_law_355 : decode cL_law 355 = .ok (.iload_n 3, 1) := by decide +kernel
theorem dL_law_356 : decode cL_law 356 = .ok (.iconst 2, 1) := by decide +kernel
theorem dL_law_357 : decode cL_law 357 = .ok (.iadd, 1) := by decide +kernel
theorem dL_law_358 : decode cL_law 358 = .ok (.iaload, 1) := by decide +kernel
theorem dL_law_359 : decode cL_law 359 = .ok (.aload_n 0, 1) := by decide +kernel
theorem dL_law_360 : decode cL_law 360 = .ok (.iload_n 3, 1) := by decide +kernel
theorem dL_law_361 : decode cL_law 361 = .ok (.iconst 3, 1) := by decide +kernel
theorem dL_law_362 : decode cL_law 362 = .ok (.iadd, 1) := by decide +kernel
theorem dL_law_363 : decode cL_law 363 = .ok (.iaload, 1) := by decide +kernel
theorem dL_law_364 : decode cL_law 364 = .ok (.invokevirtual 39, 3) := by decide +kernel
theorem dL_law_367 : decode cL_law 367 = .ok (.if_icmp .eq 555, 3) := by decide +kernel
theorem dL_law_370 : decode cL_law 370 = .ok (.iconst 0, 1) := by decide +kernel
theorem dL_law_371 : decode cL_law 371 = .ok (.ireturn, 1) := by decide +kernel
theorem dL_law_372 : decode cL_law 372 = .ok (.aload_n 1, 1) := by decide +kernel
theorem dL_law_373 : decode cL_law 373 = .ok (.aload_n 0, 1) := by decide +kernel
theorem dL_law_374 : decode cL_law 374 = .ok (.iload_n 3, 1) := by decide +kernel
theorem dL_law_375 : decode cL_law 375 = .ok (.iconst 1, 1) := by decide +kernel
theorem dL_law_376 : decode cL_law 376 = .ok (.iadd, 1) := by decide +kernel
theorem dL_law_377 : decode cL_law 377 = .ok (.iaload, 1) := by decide +kernel
theorem dL_law_378 : decode cL_law 378 = .ok (.aload_n 0, 1) := by decide +kernel
theorem dL_law_379 : decode cL_law 379 = .ok (.iload_n 3, 1) := by decide +kernel
theorem dL_law_380 : decode cL_law 380 = .ok (.iconst 2, 1) := by decide +kernel
theorem dL_law_381 : decode cL_law 381 = .ok (.iadd, 1) := by decide +kernel
theorem dL_law_382 : decode cL_law 382 = .ok (.iaload, 1) := by decide +kernel
theorem dL_law_383 : decode cL_law 383 = .ok (.invokevirtual 40, 3) := by decide +kernel
theorem dL_law_386 : decode cL_law 386 = .ok (.aload_n 2, 1) := by decide +kernel
theorem dL_law_387 : decode cL_law 387 = .ok (.aload_n 0, 1) := by decide +kernel
theorem dL_law_388 : decode cL_law 388 = .ok (.iload_n 3, 1) := by decide +kernel
theorem dL_law_389 : decode cL_law 389 = .ok (.iconst 1, 1) := by decide +kernel
theorem dL_law_390 : decode cL_law 390 = .ok (.iadd, 1) := by decide +kernel
theorem dL_law_391 : decode cL_law 391 = .ok (.iaload, 1) := by decide +kernel
theorem dL_law_392 : decode cL_law 392 = .ok (.aload_n 0, 1) := by decide +kernel
theorem dL_law_393 : decode cL_law 393 = .ok (.iload_n 3, 1) := by decide +kernel
theorem dL_law_394 : decode cL_law 394 = .ok (.iconst 2, 1) := by decide +kernel
theorem dL_law_395 : decode cL_law 395 = .ok (.iadd, 1) := by decide +kernel
theorem dL_law_396 : decode cL_law 396 = .ok (.iaload, 1) := by decide +kernel
theorem dL_law_397 : decode cL_law 397 = .ok (.invokevirtual 43, 3) := by decide +kernel
theorem dL_law_400 : decode cL_law 400 = .ok (.if_icmp .eq 522, 3) := by decide +kernel
theorem dL_law_403 : decode cL_law 403 = .ok (.iconst 0, 1) := by decide +kernel
theorem dL_law_404 : decode cL_law 404 = .ok (.ireturn, 1) := by decide +kernel
theorem dL_law_405 : decode cL_law 405 = .ok (.aload_n 1, 1) := by decide +kernel
theorem dL_law_406 : decode cL_law 406 = .ok (.aload_n 0, 1) := by decide +kernel
theorem dL_law_407 : decode cL_law 407 = .ok (.iload_n 3, 1) := by decide +kernel
theorem dL_law_408 : decode cL_law 408 = .ok (.iconst 1, 1) := by decide +kernel
theorem dL_law_409 : decode cL_law 409 = .ok (.iadd, 1) := by decide +kernel
theorem dL_law_410 : decode cL_law 410 = .ok (.iaload, 1) := by decide +kernel
theorem dL_law_411 : decode cL_law 411 = .ok (.aload_n 0, 1) := by decide +kernel
theorem dL_law_412 : decode cL_law 412 = .ok (.iload_n 3, 1) := by decide +kernel
theorem dL_law_413 : decode cL_law 413 = .ok (.iconst 2, 1) := by decide +kernel
theorem dL_law_414 : decode cL_law 414 = .ok (.iadd, 1) := by decide +kernel
theorem dL_law_415 : decode cL_law 415 = .ok (.iaload, 1) := by decide +kernel
theorem dL_law_416 : decode cL_law 416 = .ok (.invokevirtual 44, 3) := by decide +kernel
theorem dL_law_419 : decode cL_law 419 = .ok (.aload_n 2, 1) := by decide +kernel
theorem dL_law_420 : decode cL_law 420 = .ok (.aload_n 0, 1) := by decide +kernel
theorem dL_law_421 : decode cL_law 421 = .ok (.iload_n 3, 1) := by decide +kernel
theorem dL_law_422 : decode cL_law 422 = .ok (.iconst 1, 1) := by decide +kernel
theorem dL_law_423 : decode cL_law 423 = .ok (.iadd, 1) := by decide +kernel
theorem dL_law_424 : decode cL_law 424 = .ok (.iaload, 1) := by decide +kernel
theorem dL_law_425 : decode cL_law 425 = .ok (.aload_n 0, 1) := by decide +kernel
theorem dL_law_426 : decode cL_law 426 = .ok (.iload_n 3, 1) := by decide +kernel
theorem dL_law_427 : decode cL_law 427 = .ok (.iconst 2, 1) := by decide +kernel
theorem dL_law_428 : decode cL_law 428 = .ok (.iadd, 1) := by decide +kernel
theorem dL_law_429 : decode cL_law 429 = .ok (.iaload, 1) := by decide +kernel
theorem dL_law_430 : decode cL_law 430 = .ok (.invokevirtual 47, 3) := by decide +kernel
theorem dL_law_433 : decode cL_law 433 = .ok (.if_icmp .eq 489, 3) := by decide +kernel
theorem dL_law_436 : decode cL_law 436 = .ok (.iconst 0, 1) := by decide +kernel
theorem dL_law_437 : decode cL_law 437 = .ok (.ireturn, 1) := by decide +kernel
theorem dL_law_438 : decode cL_law 438 = .ok (.aload_n 1, 1) := by decide +kernel
theorem dL_law_439 : decode cL_law 439 = .ok (.aload_n 0, 1) := by decide +kernel
theorem dL_law_440 : decode cL_law 440 = .ok (.iload_n 3, 1) := by decide +kernel
theorem dL_law_441 : decode cL_law 441 = .ok (.iconst 1, 1) := by decide +kernel
theorem dL_law_442 : decode cL_law 442 = .ok (.iadd, 1) := by decide +kernel
theorem dL_law_443 : decode cL_law 443 = .ok (.iaload, 1) := by decide +kernel
theorem dL_law_444 : decode cL_law 444 = .ok (.aload_n 0, 1) := by decide +kernel
theorem dL_law_445 : decode cL_law 445 = .ok (.iload_n 3, 1) := by decide +kernel
theorem dL_law_446 : decode cL_law 446 = .ok (.iconst 2, 1) := by decide +kernel
theorem dL_law_447 : decode cL_law 447 = .ok (.iadd, 1) := by decide +kernel
theorem dL_law_448 : decode cL_law 448 = .ok (.iaload, 1) := by decide +kernel
theorem dL_law_449 : decode cL_law 449 = .ok (.aload_n 0, 1) := by decide +kernel
theorem dL_law_450 : decode cL_law 450 = .ok (.iload_n 3, 1) := by decide +kernel
theorem dL_law_451 : decode cL_law 451 = .ok (.iconst 3, 1) := by decide +kernel
theorem dL_law_452 : decode cL_law 452 = .ok (.iadd, 1) := by decide +kernel
theorem dL_law_453 : decode cL_law 453 = .ok (.iaload, 1) := by decide +kernel
theorem dL_law_454 : decode cL_law 454 = .ok (.invokevirtual 48, 3) := by decide +kernel
theorem dL_law_457 : decode cL_law 457 = .ok (.aload_n 2, 1) := by decide +kernel
theorem dL_law_458 : decode cL_law 458 = .ok (.aload_n 0, 1) := by decide +kernel
theorem dL_law_459 : decode cL_law 459 = .ok (.iload_n 3, 1) := by decide +kernel
theorem dL_law_460 : decode cL_law 460 = .ok (.iconst 1, 1) := by decide +kernel
theorem dL_law_461 : decode cL_law 461 = .ok (.iadd, 1) := by decide +kernel
theorem dL_law_462 : decode cL_law 462 = .ok (.iaload, 1) := by decide +kernel
theorem dL_law_463 : decode cL_law 463 = .ok (.aload_n 0, 1) := by decide +kernel
theorem dL_law_464 : decode cL_law 464 = .ok (.iload_n 3, 1) := by decide +kernel
theorem dL_law_465 : decode cL_law 465 = .ok (.iconst 2, 1) := by decide +kernel
theorem dL_law_466 : decode cL_law 466 = .ok (.iadd, 1) := by decide +kernel
theorem dL_law_467 : decode cL_law 467 = .ok (.iaload, 1) := by decide +kernel
theorem dL_law_468 : decode cL_law 468 = .ok (.aload_n 0, 1) := by decide +kernel
theorem dL_law_469 : decode cL_law 469 = .ok (.iload_n 3, 1) := by decide +kernel
theorem dL_law_470 : decode cL_law 470 = .ok (.iconst 3, 1) := by decide +kernel
theorem dL_law_471 : decode cL_law 471 = .ok (.iadd, 1) := by decide +kernel
theorem dL_law_472 : decode cL_law 472 = .ok (.iaload, 1) := by decide +kernel
theorem dL_law_473 : decode cL_law 473 = .ok (.invokevirtual 51, 3) := by decide +kernel
theorem dL_law_476 : decode cL_law 476 = .ok (.if_icmp .eq 446, 3) := by decide +kernel
theorem dL_law_479 : decode cL_law 479 = .ok (.iconst 0, 1) := by decide +kernel
theorem dL_law_480 : decode cL_law 480 = .ok (.ireturn, 1) := by decide +kernel
theorem dL_law_481 : decode cL_law 481 = .ok (.aload_n 1, 1) := by decide +kernel
theorem dL_law_482 : decode cL_law 482 = .ok (.aload_n 0, 1) := by decide +kernel
theorem dL_law_483 : decode cL_law 483 = .ok (.iload_n 3, 1) := by decide +kernel
theorem dL_law_484 : decode cL_law 484 = .ok (.iconst 1, 1) := by decide +kernel
theorem dL_law_485 : decode cL_law 485 = .ok (.iadd, 1) := by decide +kernel
theorem dL_law_486 : decode cL_law 486 = .ok (.iaload, 1) := by decide +kernel
theorem dL_law_487 : decode cL_law 487 = .ok (.aload_n 0, 1) := by decide +kernel
theorem dL_law_488 : decode cL_law 488 = .ok (.iload_n 3, 1) := by decide +kernel
theorem dL_law_489 : decode cL_law 489 = .ok (.iconst 2, 1) := by decide +kernel
theorem dL_law_490 : decode cL_law 490 = .ok (.iadd, 1) := by decide +kernel
theorem dL_law_491 : decode cL_law 491 = .ok (.iaload, 1) := by decide +kernel
theorem dL_law_492 : decode cL_law 492 = .ok (.invokevirtual 52, 3) := by decide +kernel
theorem dL_law_495 : decode cL_law 495 = .ok (.aload_n 2, 1) := by decide +kernel
theorem dL_law_496 : decode cL_law 496 = .ok (.aload_n 0, 1) := by decide +kernel
theorem dL_law_497 : decode cL_law 497 = .ok (.iload_n 3, 1) := by decide +kernel
theorem dL_law_498 : decode cL_law 498 = .ok (.iconst 1, 1) := by decide +kernel
theorem dL_law_499 : decode cL_law 499 = .ok (.iadd, 1) := by decide +kernel
theorem dL_law_500 : decode cL_law 500 = .ok (.iaload, 1) := by decide +kernel
theorem dL_law_501 : decode cL_law 501 = .ok (.aload_n 0, 1) := by decide +kernel
theorem dL_law_502 : decode cL_law 502 = .ok (.iload_n 3, 1) := by decide +kernel
theorem dL_law_503 : decode cL_law 503 = .ok (.iconst 2, 1) := by decide +kernel
theorem dL_law_504 : decode cL_law 504 = .ok (.iadd, 1) := by decide +kernel
theorem dL_law_505 : decode cL_law 505 = .ok (.iaload, 1) := by decide +kernel
theorem dL_law_506 : decode cL_law 506 = .ok (.invokevirtual 55, 3) := by decide +kernel
theorem dL_law_509 : decode cL_law 509 = .ok (.if_icmp .eq 413, 3) := by decide +kernel
theorem dL_law_512 : decode cL_law 512 = .ok (.iconst 0, 1) := by decide +kernel
theorem dL_law_513 : decode cL_law 513 = .ok (.ireturn, 1) := by decide +kernel
theorem dL_law_514 : decode cL_law 514 = .ok (.aload_n 1, 1) := by decide +kernel
theorem dL_law_515 : decode cL_law 515 = .ok (.aload_n 0, 1) := by decide +kernel
theorem dL_law_516 : decode cL_law 516 = .ok (.iload_n 3, 1) := by decide +kernel
theorem dL_law_517 : decode cL_law 517 = .ok (.iconst 1, 1) := by decide +kernel
theorem dL_law_518 : decode cL_law 518 = .ok (.iadd, 1) := by decide +kernel
theorem dL_law_519 : decode cL_law 519 = .ok (.iaload, 1) := by decide +kernel
theorem dL_law_520 : decode cL_law 520 = .ok (.aload_n 0, 1) := by decide +kernel
theorem dL_law_521 : decode cL_law 521 = .ok (.iload_n 3, 1) := by decide +kernel
theorem dL_law_522 : decode cL_law 522 = .ok (.iconst 2, 1) := by decide +kernel
theorem dL_law_523 : decode cL_law 523 = .ok (.iadd, 1) := by decide +kernel
theorem dL_law_524 : decode cL_law 524 = .ok (.iaload, 1) := by decide +kernel
theorem dL_law_525 : decode cL_law 525 = .ok (.aload_n 0, 1) := by decide +kernel
theorem dL_law_526 : decode cL_law 526 = .ok (.iload_n 3, 1) := by decide +kernel
theorem dL_law_527 : decode cL_law 527 = .ok (.iconst 3, 1) := by decide +kernel
theorem dL_law_528 : decode cL_law 528 = .ok (.iadd, 1) := by decide +kernel
theorem dL_law_529 : decode cL_law 529 = .ok (.iaload, 1) := by decide +kernel
theorem dL_law_530 : decode cL_law 530 = .ok (.invokevirtual 56, 3) := by decide +kernel
theorem dL_law_533 : decode cL_law 533 = .ok (.aload_n 2, 1) := by decide +kernel
theorem dL_law_534 : decode cL_law 534 = .ok (.aload_n 0, 1) := by decide +kernel
theorem dL_law_535 : decode cL_law 535 = .ok (.iload_n 3, 1) := by decide +kernel
theorem dL_law_536 : decode cL_law 536 = .ok (.iconst 1, 1) := by decide +kernel
theorem dL_law_537 : decode cL_law 537 = .ok (.iadd, 1) := by decide +kernel
theorem dL_law_538 : decode cL_law 538 = .ok (.iaload, 1) := by decide +kernel
theorem dL_law_539 : decode cL_law 539 = .ok (.aload_n 0, 1) := by decide +kernel
theorem dL_law_540 : decode cL_law 540 = .ok (.iload_n 3, 1) := by decide +kernel
theorem dL_law_541 : decode cL_law 541 = .ok (.iconst 2, 1) := by decide +kernel
theorem dL_law_542 : decode cL_law 542 = .ok (.iadd, 1) := by decide +kernel
theorem dL_law_543 : decode cL_law 543 = .ok (.iaload, 1) := by decide +kernel
theorem dL_law_544 : decode cL_law 544 = .ok (.aload_n 0, 1) := by decide +kernel
theorem dL_law_545 : decode cL_law 545 = .ok (.iload_n 3, 1) := by decide +kernel
theorem dL_law_546 : decode cL_law 546 = .ok (.iconst 3, 1) := by decide +kernel
theorem dL_law_547 : decode cL_law 547 = .ok (.iadd, 1) := by decide +kernel
theorem dL_law_548 : decode cL_law 548 = .ok (.iaload, 1) := by decide +kernel
theorem dL_law_549 : decode cL_law 549 = .ok (.invokevirtual 59, 3) := by decide +kernel
theorem dL_law_552 : decode cL_law 552 = .ok (.if_icmp .eq 370, 3) := by decide +kernel
theorem dL_law_555 : decode cL_law 555 = .ok (.iconst 0, 1) := by decide +kernel
theorem dL_law_556 : decode cL_law 556 = .ok (.ireturn, 1) := by decide +kernel
theorem dL_law_557 : decode cL_law 557 = .ok (.aload_n 1, 1) := by decide +kernel
theorem dL_law_558 : decode cL_law 558 = .ok (.aload_n 0, 1) := by decide +kernel
theorem dL_law_559 : decode cL_law 559 = .ok (.iload_n 3, 1) := by decide +kernel
theorem dL_law_560 : decode cL_law 560 = .ok (.iconst 1, 1) := by decide +kernel
theorem dL_law_561 : decode cL_law 561 = .ok (.iadd, 1) := by decide +kernel
theorem dL_law_562 : decode cL_law 562 = .ok (.iaload, 1) := by decide +kernel
theorem dL_law_563 : decode cL_law 563 = .ok (.aload_n 0, 1) := by decide +kernel
theorem dL_law_564 : decode cL_law 564 = .ok (.iload_n 3, 1) := by decide +kernel
theorem dL_law_565 : decode cL_law 565 = .ok (.iconst 2, 1) := by decide +kernel
theorem dL_law_566 : decode cL_law 566 = .ok (.iadd, 1) := by decide +kernel
theorem dL_law_567 : decode cL_law 567 = .ok (.iaload, 1) := by decide +kernel
theorem dL_law_568 : decode cL_law 568 = .ok (.invokevirtual 60, 3) := by decide +kernel
theorem dL_law_571 : decode cL_law 571 = .ok (.aload_n 2, 1) := by decide +kernel
theorem dL_law_572 : decode cL_law 572 = .ok (.aload_n 0, 1) := by decide +kernel
theorem dL_law_573 : decode cL_law 573 = .ok (.iload_n 3, 1) := by decide +kernel
theorem dL_law_574 : decode cL_law 574 = .ok (.iconst 1, 1) := by decide +kernel
theorem dL_law_575 : decode cL_law 575 = .ok (.iadd, 1) := by decide +kernel
theorem dL_law_576 : decode cL_law 576 = .ok (.iaload, 1) := by decide +kernel
theorem dL_law_577 : decode cL_law 577 = .ok (.aload_n 0, 1) := by decide +kernel
theorem dL_law_578 : decode cL_law 578 = .ok (.iload_n 3, 1) := by decide +kernel
theorem dL_law_579 : decode cL_law 579 = .ok (.iconst 2, 1) := by decide +kernel
theorem dL_law_580 : decode cL_law 580 = .ok (.iadd, 1) := by decide +kernel
theorem dL_law_581 : decode cL_law 581 = .ok (.iaload, 1) := by decide +kernel
theorem dL_law_582 : decode cL_law 582 = .ok (.invokevirtual 63, 3) := by decide +kernel
theorem dL_law_585 : decode cL_law 585 = .ok (.if_icmp .eq 337, 3) := by decide +kernel
theorem dL_law_588 : decode cL_law 588 = .ok (.iconst 0, 1) := by decide +kernel
theorem dL_law_589 : decode cL_law 589 = .ok (.ireturn, 1) := by decide +kernel
theorem dL_law_590 : decode cL_law 590 = .ok (.aload_n 1, 1) := by decide +kernel
theorem dL_law_591 : decode cL_law 591 = .ok (.aload_n 0, 1) := by decide +kernel
theorem dL_law_592 : decode cL_law 592 = .ok (.iload_n 3, 1) := by decide +kernel
theorem dL_law_593 : decode cL_law 593 = .ok (.iconst 1, 1) := by decide +kernel
theorem dL_law_594 : decode cL_law 594 = .ok (.iadd, 1) := by decide +kernel
theorem dL_law_595 : decode cL_law 595 = .ok (.iaload, 1) := by decide +kernel
theorem dL_law_596 : decode cL_law 596 = .ok (.invokevirtual 64, 3) := by decide +kernel
theorem dL_law_599 : decode cL_law 599 = .ok (.aload_n 2, 1) := by decide +kernel
theorem dL_law_600 : decode cL_law 600 = .ok (.aload_n 0, 1) := by decide +kernel
theorem dL_law_601 : decode cL_law 601 = .ok (.iload_n 3, 1) := by decide +kernel
theorem dL_law_602 : decode cL_law 602 = .ok (.iconst 1, 1) := by decide +kernel
theorem dL_law_603 : decode cL_law 603 = .ok (.iadd, 1) := by decide +kernel
theorem dL_law_604 : decode cL_law 604 = .ok (.iaload, 1) := by decide +kernel
theorem dL_law_605 : decode cL_law 605 = .ok (.invokevirtual 67, 3) := by decide +kernel
theorem dL_law_608 : decode cL_law 608 = .ok (.if_icmp .eq 314, 3) := by decide +kernel
theorem dL_law_611 : decode cL_law 611 = .ok (.iconst 0, 1) := by decide +kernel
theorem dL_law_612 : decode cL_law 612 = .ok (.ireturn, 1) := by decide +kernel
theorem dL_law_613 : decode cL_law 613 = .ok (.aload_n 1, 1) := by decide +kernel
theorem dL_law_614 : decode cL_law 614 = .ok (.aload_n 0, 1) := by decide +kernel
theorem dL_law_615 : decode cL_law 615 = .ok (.iload_n 3, 1) := by decide +kernel
theorem dL_law_616 : decode cL_law 616 = .ok (.iconst 1, 1) := by decide +kernel
theorem dL_law_617 : decode cL_law 617 = .ok (.iadd, 1) := by decide +kernel
theorem dL_law_618 : decode cL_law 618 = .ok (.iaload, 1) := by decide +kernel
theorem dL_law_619 : decode cL_law 619 = .ok (.aload_n 0, 1) := by decide +kernel
theorem dL_law_620 : decode cL_law 620 = .ok (.iload_n 3, 1) := by decide +kernel
theorem dL_law_621 : decode cL_law 621 = .ok (.iconst 2, 1) := by decide +kernel
theorem dL_law_622 : decode cL_law 622 = .ok (.iadd, 1) := by decide +kernel
theorem dL_law_623 : decode cL_law 623 = .ok (.iaload, 1) := by decide +kernel
theorem dL_law_624 : decode cL_law 624 = .ok (.invokevirtual 68, 3) := by decide +kernel
theorem dL_law_627 : decode cL_law 627 = .ok (.aload_n 2, 1) := by decide +kernel
theorem dL_law_628 : decode cL_law 628 = .ok (.aload_n 0, 1) := by decide +kernel
theorem dL_law_629 : decode cL_law 629 = .ok (.iload_n 3, 1) := by decide +kernel
theorem dL_law_630 : decode cL_law 630 = .ok (.iconst 1, 1) := by decide +kernel
theorem dL_law_631 : decode cL_law 631 = .ok (.iadd, 1) := by decide +kernel
theorem dL_law_632 : decode cL_law 632 = .ok (.iaload, 1) := by decide +kernel
theorem dL_law_633 : decode cL_law 633 = .ok (.aload_n 0, 1) := by decide +kernel
theorem dL_law_634 : decode cL_law 634 = .ok (.iload_n 3, 1) := by decide +kernel
theorem dL_law_635 : decode cL_law 635 = .ok (.iconst 2, 1) := by decide +kernel
theorem dL_law_636 : decode cL_law 636 = .ok (.iadd, 1) := by decide +kernel
theorem dL_law_637 : decode cL_law 637 = .ok (.iaload, 1) := by decide +kernel
theorem dL_law_638 : decode cL_law 638 = .ok (.invokevirtual 71, 3) := by decide +kernel
theorem dL_law_641 : decode cL_law 641 = .ok (.if_icmp .eq 281, 3) := by decide +kernel
theorem dL_law_644 : decode cL_law 644 = .ok (.iconst 0, 1) := by decide +kernel
theorem dL_law_645 : decode cL_law 645 = .ok (.ireturn, 1) := by decide +kernel
theorem dL_law_646 : decode cL_law 646 = .ok (.aload_n 1, 1) := by decide +kernel
theorem dL_law_647 : decode cL_law 647 = .ok (.aload_n 0, 1) := by decide +kernel
theorem dL_law_648 : decode cL_law 648 = .ok (.iload_n 3, 1) := by decide +kernel
theorem dL_law_649 : decode cL_law 649 = .ok (.iconst 1, 1) := by decide +kernel
theorem dL_law_650 : decode cL_law 650 = .ok (.iadd, 1) := by decide +kernel
theorem dL_law_651 : decode cL_law 651 = .ok (.iaload, 1) := by decide +kernel
theorem dL_law_652 : decode cL_law 652 = .ok (.aload_n 0, 1) := by decide +kernel
theorem dL_law_653 : decode cL_law 653 = .ok (.iload_n 3, 1) := by decide +kernel
theorem dL_law_654 : decode cL_law 654 = .ok (.iconst 2, 1) := by decide +kernel
theorem dL_law_655 : decode cL_law 655 = .ok (.iadd, 1) := by decide +kernel
theorem dL_law_656 : decode cL_law 656 = .ok (.iaload, 1) := by decide +kernel
theorem dL_law_657 : decode cL_law 657 = .ok (.aload_n 0, 1) := by decide +kernel
theorem dL_law_658 : decode cL_law 658 = .ok (.iload_n 3, 1) := by decide +kernel
theorem dL_law_659 : decode cL_law 659 = .ok (.iconst 3, 1) := by decide +kernel
theorem dL_law_660 : decode cL_law 660 = .ok (.iadd, 1) := by decide +kernel
theorem dL_law_661 : decode cL_law 661 = .ok (.iaload, 1) := by decide +kernel
theorem dL_law_662 : decode cL_law 662 = .ok (.invokevirtual 72, 3) := by decide +kernel
theorem dL_law_665 : decode cL_law 665 = .ok (.aload_n 2, 1) := by decide +kernel
theorem dL_law_666 : decode cL_law 666 = .ok (.aload_n 0, 1) := by decide +kernel
theorem dL_law_667 : decode cL_law 667 = .ok (.iload_n 3, 1) := by decide +kernel
theorem dL_law_668 : decode cL_law 668 = .ok (.iconst 1, 1) := by decide +kernel
theorem dL_law_669 : decode cL_law 669 = .ok (.iadd, 1) := by decide +kernel
theorem dL_law_670 : decode cL_law 670 = .ok (.iaload, 1) := by decide +kernel
theorem dL_law_671 : decode cL_law 671 = .ok (.aload_n 0, 1) := by decide +kernel
theorem dL_law_672 : decode cL_law 672 = .ok (.iload_n 3, 1) := by decide +kernel
theorem dL_law_673 : decode cL_law 673 = .ok (.iconst 2, 1) := by decide +kernel
theorem dL_law_674 : decode cL_law 674 = .ok (.iadd, 1) := by decide +kernel
theorem dL_law_675 : decode cL_law 675 = .ok (.iaload, 1) := by decide +kernel
theorem dL_law_676 : decode cL_law 676 = .ok (.aload_n 0, 1) := by decide +kernel
theorem dL_law_677 : decode cL_law 677 = .ok (.iload_n 3, 1) := by decide +kernel
theorem dL_law_678 : decode cL_law 678 = .ok (.iconst 3, 1) := by decide +kernel
theorem dL_law_679 : decode cL_law 679 = .ok (.iadd, 1) := by decide +kernel
theorem dL_law_680 : decode cL_law 680 = .ok (.iaload, 1) := by decide +kernel
theorem dL_law_681 : decode cL_law 681 = .ok (.invokevirtual 75, 3) := by decide +kernel
theorem dL_law_684 : decode cL_law 684 = .ok (.if_icmp .eq 238, 3) := by decide +kernel
theorem dL_law_687 : decode cL_law 687 = .ok (.iconst 0, 1) := by decide +kernel
theorem dL_law_688 : decode cL_law 688 = .ok (.ireturn, 1) := by decide +kernel
theorem dL_law_689 : decode cL_law 689 = .ok (.aload_n 1, 1) := by decide +kernel
theorem dL_law_690 : decode cL_law 690 = .ok (.aload_n 0, 1) := by decide +kernel
theorem dL_law_691 : decode cL_law 691 = .ok (.iload_n 3, 1) := by decide +kernel
theorem dL_law_692 : decode cL_law 692 = .ok (.iconst 1, 1) := by decide +kernel
theorem dL_law_693 : decode cL_law 693 = .ok (.iadd, 1) := by decide +kernel
theorem dL_law_694 : decode cL_law 694 = .ok (.iaload, 1) := by decide +kernel
theorem dL_law_695 : decode cL_law 695 = .ok (.invokevirtual 76, 3) := by decide +kernel
theorem dL_law_698 : decode cL_law 698 = .ok (.aload_n 2, 1) := by decide +kernel
theorem dL_law_699 : decode cL_law 699 = .ok (.aload_n 0, 1) := by decide +kernel
theorem dL_law_700 : decode cL_law 700 = .ok (.iload_n 3, 1) := by decide +kernel
theorem dL_law_701 : decode cL_law 701 = .ok (.iconst 1, 1) := by decide +kernel
theorem dL_law_702 : decode cL_law 702 = .ok (.iadd, 1) := by decide +kernel
theorem dL_law_703 : decode cL_law 703 = .ok (.iaload, 1) := by decide +kernel
theorem dL_law_704 : decode cL_law 704 = .ok (.invokevirtual 79, 3) := by decide +kernel
theorem dL_law_707 : decode cL_law 707 = .ok (.if_icmp .eq 215, 3) := by decide +kernel
theorem dL_law_710 : decode cL_law 710 = .ok (.iconst 0, 1) := by decide +kernel
theorem dL_law_711 : decode cL_law 711 = .ok (.ireturn, 1) := by decide +kernel
theorem dL_law_712 : decode cL_law 712 = .ok (.aload_n 1, 1) := by decide +kernel
theorem dL_law_713 : decode cL_law 713 = .ok (.invokevirtual 80, 3) := by decide +kernel
theorem dL_law_716 : decode cL_law 716 = .ok (.aload_n 2, 1) := by decide +kernel
theorem dL_law_717 : decode cL_law 717 = .ok (.invokevirtual 84, 3) := by decide +kernel
theorem dL_law_720 : decode cL_law 720 = .ok (.if_icmp .eq 202, 3) := by decide +kernel
theorem dL_law_723 : decode cL_law 723 = .ok (.iconst 0, 1) := by decide +kernel
theorem dL_law_724 : decode cL_law 724 = .ok (.ireturn, 1) := by decide +kernel
theorem dL_law_725 : decode cL_law 725 = .ok (.aload_n 1, 1) := by decide +kernel
theorem dL_law_726 : decode cL_law 726 = .ok (.invokevirtual 85, 3) := by decide +kernel
theorem dL_law_729 : decode cL_law 729 = .ok (.aload_n 2, 1) := by decide +kernel
theorem dL_law_730 : decode cL_law 730 = .ok (.invokevirtual 88, 3) := by decide +kernel
theorem dL_law_733 : decode cL_law 733 = .ok (.if_icmp .eq 189, 3) := by decide +kernel
theorem dL_law_736 : decode cL_law 736 = .ok (.iconst 0, 1) := by decide +kernel
theorem dL_law_737 : decode cL_law 737 = .ok (.ireturn, 1) := by decide +kernel
theorem dL_law_738 : decode cL_law 738 = .ok (.aload_n 1, 1) := by decide +kernel
theorem dL_law_739 : decode cL_law 739 = .ok (.aload_n 0, 1) := by decide +kernel
theorem dL_law_740 : decode cL_law 740 = .ok (.iload_n 3, 1) := by decide +kernel
theorem dL_law_741 : decode cL_law 741 = .ok (.iconst 1, 1) := by decide +kernel
theorem dL_law_742 : decode cL_law 742 = .ok (.iadd, 1) := by decide +kernel
theorem dL_law_743 : decode cL_law 743 = .ok (.iaload, 1) := by decide +kernel
theorem dL_law_744 : decode cL_law 744 = .ok (.aload_n 0, 1) := by decide +kernel
theorem dL_law_745 : decode cL_law 745 = .ok (.iload_n 3, 1) := by decide +kernel
theorem dL_law_746 : decode cL_law 746 = .ok (.iconst 2, 1) := by decide +kernel
theorem dL_law_747 : decode cL_law 747 = .ok (.iadd, 1) := by decide +kernel
theorem dL_law_748 : decode cL_law 748 = .ok (.iaload, 1) := by decide +kernel
theorem dL_law_749 : decode cL_law 749 = .ok (.invokevirtual 89, 3) := by decide +kernel
theorem dL_law_752 : decode cL_law 752 = .ok (.aload_n 2, 1) := by decide +kernel
theorem dL_law_753 : decode cL_law 753 = .ok (.aload_n 0, 1) := by decide +kernel
theorem dL_law_754 : decode cL_law 754 = .ok (.iload_n 3, 1) := by decide +kernel
theorem dL_law_755 : decode cL_law 755 = .ok (.iconst 1, 1) := by decide +kernel
theorem dL_law_756 : decode cL_law 756 = .ok (.iadd, 1) := by decide +kernel
theorem dL_law_757 : decode cL_law 757 = .ok (.iaload, 1) := by decide +kernel
theorem dL_law_758 : decode cL_law 758 = .ok (.aload_n 0, 1) := by decide +kernel
theorem dL_law_759 : decode cL_law 759 = .ok (.iload_n 3, 1) := by decide +kernel
theorem dL_law_760 : decode cL_law 760 = .ok (.iconst 2, 1) := by decide +kernel
theorem dL_law_761 : decode cL_law 761 = .ok (.iadd, 1) := by decide +kernel
theorem dL_law_762 : decode cL_law 762 = .ok (.iaload, 1) := by decide +kernel
theorem dL_law_763 : decode cL_law 763 = .ok (.invokevirtual 92, 3) := by decide +kernel
theorem dL_law_766 : decode cL_law 766 = .ok (.if_icmp .eq 156, 3) := by decide +kernel
theorem dL_law_769 : decode cL_law 769 = .ok (.iconst 0, 1) := by decide +kernel
theorem dL_law_770 : decode cL_law 770 = .ok (.ireturn, 1) := by decide +kernel
theorem dL_law_771 : decode cL_law 771 = .ok (.aload_n 1, 1) := by decide +kernel
theorem dL_law_772 : decode cL_law 772 = .ok (.invokevirtual 93, 3) := by decide +kernel
theorem dL_law_775 : decode cL_law 775 = .ok (.aload_n 2, 1) := by decide +kernel
theorem dL_law_776 : decode cL_law 776 = .ok (.invokevirtual 96, 3) := by decide +kernel
theorem dL_law_779 : decode cL_law 779 = .ok (.if_icmp .eq 143, 3) := by decide +kernel
theorem dL_law_782 : decode cL_law 782 = .ok (.iconst 0, 1) := by decide +kernel
theorem dL_law_783 : decode cL_law 783 = .ok (.ireturn, 1) := by decide +kernel
theorem dL_law_784 : decode cL_law 784 = .ok (.aload_n 1, 1) := by decide +kernel
theorem dL_law_785 : decode cL_law 785 = .ok (.invokevirtual 97, 3) := by decide +kernel
theorem dL_law_788 : decode cL_law 788 = .ok (.aload_n 2, 1) := by decide +kernel
theorem dL_law_789 : decode cL_law 789 = .ok (.invokevirtual 100, 3) := by decide +kernel
theorem dL_law_792 : decode cL_law 792 = .ok (.if_icmp .eq 130, 3) := by decide +kernel
theorem dL_law_795 : decode cL_law 795 = .ok (.iconst 0, 1) := by decide +kernel
theorem dL_law_796 : decode cL_law 796 = .ok (.ireturn, 1) := by decide +kernel
theorem dL_law_797 : decode cL_law 797 = .ok (.aload_n 1, 1) := by decide +kernel
theorem dL_law_798 : decode cL_law 798 = .ok (.invokevirtual 101, 3) := by decide +kernel
theorem dL_law_801 : decode cL_law 801 = .ok (.aload_n 2, 1) := by decide +kernel
theorem dL_law_802 : decode cL_law 802 = .ok (.invokevirtual 104, 3) := by decide +kernel
theorem dL_law_805 : decode cL_law 805 = .ok (.if_icmp .eq 117, 3) := by decide +kernel
theorem dL_law_808 : decode cL_law 808 = .ok (.iconst 0, 1) := by decide +kernel
theorem dL_law_809 : decode cL_law 809 = .ok (.ireturn, 1) := by decide +kernel
theorem dL_law_810 : decode cL_law 810 = .ok (.aload_n 1, 1) := by decide +kernel
theorem dL_law_811 : decode cL_law 811 = .ok (.invokevirtual 105, 3) := by decide +kernel
theorem dL_law_814 : decode cL_law 814 = .ok (.aload_n 2, 1) := by decide +kernel
theorem dL_law_815 : decode cL_law 815 = .ok (.invokevirtual 108, 3) := by decide +kernel
theorem dL_law_818 : decode cL_law 818 = .ok (.if_icmp .eq 104, 3) := by decide +kernel
theorem dL_law_821 : decode cL_law 821 = .ok (.iconst 0, 1) := by decide +kernel
theorem dL_law_822 : decode cL_law 822 = .ok (.ireturn, 1) := by decide +kernel
theorem dL_law_823 : decode cL_law 823 = .ok (.aload_n 1, 1) := by decide +kernel
theorem dL_law_824 : decode cL_law 824 = .ok (.invokevirtual 109, 3) := by decide +kernel
theorem dL_law_827 : decode cL_law 827 = .ok (.aload_n 2, 1) := by decide +kernel
theorem dL_law_828 : decode cL_law 828 = .ok (.invokevirtual 112, 3) := by decide +kernel
theorem dL_law_831 : decode cL_law 831 = .ok (.if_icmp .eq 91, 3) := by decide +kernel
theorem dL_law_834 : decode cL_law 834 = .ok (.iconst 0, 1) := by decide +kernel
theorem dL_law_835 : decode cL_law 835 = .ok (.ireturn, 1) := by decide +kernel
theorem dL_law_836 : decode cL_law 836 = .ok (.aload_n 1, 1) := by decide +kernel
theorem dL_law_837 : decode cL_law 837 = .ok (.invokevirtual 113, 3) := by decide +kernel
theorem dL_law_840 : decode cL_law 840 = .ok (.aload_n 2, 1) := by decide +kernel
theorem dL_law_841 : decode cL_law 841 = .ok (.invokevirtual 116, 3) := by decide +kernel
theorem dL_law_844 : decode cL_law 844 = .ok (.if_icmp .eq 78, 3) := by decide +kernel
theorem dL_law_847 : decode cL_law 847 = .ok (.iconst 0, 1) := by decide +kernel
theorem dL_law_848 : decode cL_law 848 = .ok (.ireturn, 1) := by decide +kernel
theorem dL_law_849 : decode cL_law 849 = .ok (.aload_n 1, 1) := by decide +kernel
theorem dL_law_850 : decode cL_law 850 = .ok (.aload_n 0, 1) := by decide +kernel
theorem dL_law_851 : decode cL_law 851 = .ok (.iload_n 3, 1) := by decide +kernel
theorem dL_law_852 : decode cL_law 852 = .ok (.iconst 1, 1) := by decide +kernel
theorem dL_law_853 : decode cL_law 853 = .ok (.iadd, 1) := by decide +kernel
theorem dL_law_854 : decode cL_law 854 = .ok (.iaload, 1) := by decide +kernel
theorem dL_law_855 : decode cL_law 855 = .ok (.invokevirtual 117, 3) := by decide +kernel
theorem dL_law_858 : decode cL_law 858 = .ok (.aload_n 2, 1) := by decide +kernel
theorem dL_law_859 : decode cL_law 859 = .ok (.aload_n 0, 1) := by decide +kernel
theorem dL_law_860 : decode cL_law 860 = .ok (.iload_n 3, 1) := by decide +kernel
theorem dL_law_861 : decode cL_law 861 = .ok (.iconst 1, 1) := by decide +kernel
theorem dL_law_862 : decode cL_law 862 = .ok (.iadd, 1) := by decide +kernel
theorem dL_law_863 : decode cL_law 863 = .ok (.iaload, 1) := by decide +kernel
theorem dL_law_864 : decode cL_law 864 = .ok (.invokevirtual 120, 3) := by decide +kernel
theorem dL_law_867 : decode cL_law 867 = .ok (.if_icmp .eq 55, 3) := by decide +kernel
theorem dL_law_870 : decode cL_law 870 = .ok (.iconst 0, 1) := by decide +kernel
theorem dL_law_871 : decode cL_law 871 = .ok (.ireturn, 1) := by decide +kernel
theorem dL_law_872 : decode cL_law 872 = .ok (.aload_n 1, 1) := by decide +kernel
theorem dL_law_873 : decode cL_law 873 = .ok (.invokevirtual 121, 3) := by decide +kernel
theorem dL_law_876 : decode cL_law 876 = .ok (.aload_n 2, 1) := by decide +kernel
theorem dL_law_877 : decode cL_law 877 = .ok (.invokevirtual 124, 3) := by decide +kernel
theorem dL_law_880 : decode cL_law 880 = .ok (.if_icmp .eq 42, 3) := by decide +kernel
theorem dL_law_883 : decode cL_law 883 = .ok (.iconst 0, 1) := by decide +kernel
theorem dL_law_884 : decode cL_law 884 = .ok (.ireturn, 1) := by decide +kernel
theorem dL_law_885 : decode cL_law 885 = .ok (.aload_n 1, 1) := by decide +kernel
theorem dL_law_886 : decode cL_law 886 = .ok (.aload_n 0, 1) := by decide +kernel
theorem dL_law_887 : decode cL_law 887 = .ok (.iload_n 3, 1) := by decide +kernel
theorem dL_law_888 : decode cL_law 888 = .ok (.iconst 1, 1) := by decide +kernel
theorem dL_law_889 : decode cL_law 889 = .ok (.iadd, 1) := by decide +kernel
theorem dL_law_890 : decode cL_law 890 = .ok (.iaload, 1) := by decide +kernel
theorem dL_law_891 : decode cL_law 891 = .ok (.invokevirtual 125, 3) := by decide +kernel
theorem dL_law_894 : decode cL_law 894 = .ok (.aload_n 2, 1) := by decide +kernel
theorem dL_law_895 : decode cL_law 895 = .ok (.aload_n 0, 1) := by decide +kernel
theorem dL_law_896 : decode cL_law 896 = .ok (.iload_n 3, 1) := by decide +kernel
theorem dL_law_897 : decode cL_law 897 = .ok (.iconst 1, 1) := by decide +kernel
theorem dL_law_898 : decode cL_law 898 = .ok (.iadd, 1) := by decide +kernel
theorem dL_law_899 : decode cL_law 899 = .ok (.iaload, 1) := by decide +kernel
theorem dL_law_900 : decode cL_law 900 = .ok (.invokevirtual 128, 3) := by decide +kernel
theorem dL_law_903 : decode cL_law 903 = .ok (.if_icmp .eq 19, 3) := by decide +kernel
theorem dL_law_906 : decode cL_law 906 = .ok (.iconst 0, 1) := by decide +kernel
theorem dL_law_907 : decode cL_law 907 = .ok (.ireturn, 1) := by decide +kernel
theorem dL_law_908 : decode cL_law 908 = .ok (.aload_n 1, 1) := by decide +kernel
theorem dL_law_909 : decode cL_law 909 = .ok (.invokevirtual 129, 3) := by decide +kernel
theorem dL_law_912 : decode cL_law 912 = .ok (.aload_n 2, 1) := by decide +kernel
theorem dL_law_913 : decode cL_law 913 = .ok (.invokevirtual 133, 3) := by decide +kernel
theorem dL_law_916 : decode cL_law 916 = .ok (.lcmp, 1) := by decide +kernel
theorem dL_law_917 : decode cL_law 917 = .ok (.ifCond .eq 5, 3) := by decide +kernel
theorem dL_law_920 : decode cL_law 920 = .ok (.iconst 0, 1) := by decide +kernel
theorem dL_law_921 : decode cL_law 921 = .ok (.ireturn, 1) := by decide +kernel
theorem dL_law_922 : decode cL_law 922 = .ok (.iinc 3 4, 3) := by decide +kernel
theorem dL_law_925 : decode cL_law 925 = .ok (.goto (-907), 3) := by decide +kernel
theorem dL_law_928 : decode cL_law 928 = .ok (.iconst 1, 1) := by decide +kernel
theorem dL_law_929 : decode cL_law 929 = .ok (.ireturn, 1) := by decide +kernel
