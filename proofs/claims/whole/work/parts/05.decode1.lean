theorem dX2_failLink_38 : decode cX2_failLink 38 = .ok (.aload_n 0, 1) := by decide +kernel
theorem dX2_failLink_39 : decode cX2_failLink 39 = .ok (.getfield 12, 3) := by decide +kernel
theorem dX2_failLink_42 : decode cX2_failLink 42 = .ok (.invokevirtual 38, 3) := by decide +kernel
theorem dX2_failLink_45 : decode cX2_failLink 45 = .ok (.aload_n 0, 1) := by decide +kernel
theorem dX2_failLink_46 : decode cX2_failLink 46 = .ok (.getfield 12, 3) := by decide +kernel
theorem dX2_failLink_49 : decode cX2_failLink 49 = .ok (.iload_n 1, 1) := by decide +kernel
theorem dX2_failLink_50 : decode cX2_failLink 50 = .ok (.iload_n 2, 1) := by decide +kernel
theorem dX2_failLink_51 : decode cX2_failLink 51 = .ok (.invokevirtual 56, 3) := by decide +kernel
theorem dX2_failLink_54 : decode cX2_failLink 54 = .ok (.ireturn, 1) := by decide +kernel
theorem dX2_restoreLink_0 : decode cX2_restoreLink 0 = .ok (.aload_n 0, 1) := by decide +kernel
theorem dX2_restoreLink_1 : decode cX2_restoreLink 1 = .ok (.getfield 12, 3) := by decide +kernel
theorem dX2_restoreLink_4 : decode cX2_restoreLink 4 = .ok (.iload_n 1, 1) := by decide +kernel
theorem dX2_restoreLink_5 : decode cX2_restoreLink 5 = .ok (.iload_n 2, 1) := by decide +kernel
theorem dX2_restoreLink_6 : decode cX2_restoreLink 6 = .ok (.invokevirtual 46, 3) := by decide +kernel
theorem dX2_restoreLink_9 : decode cX2_restoreLink 9 = .ok (.ifCond .ne 8, 3) := by decide +kernel
theorem dX2_restoreLink_12 : decode cX2_restoreLink 12 = .ok (.aload_n 0, 1) := by decide +kernel
theorem dX2_restoreLink_13 : decode cX2_restoreLink 13 = .ok (.invokevirtual 27, 3) := by decide +kernel
theorem dX2_restoreLink_16 : decode cX2_restoreLink 16 = .ok (.ireturn, 1) := by decide +kernel
theorem dX2_restoreLink_17 : decode cX2_restoreLink 17 = .ok (.aload_n 0, 1) := by decide +kernel
theorem dX2_restoreLink_18 : decode cX2_restoreLink 18 = .ok (.getfield 12, 3) := by decide +kernel
theorem dX2_restoreLink_21 : decode cX2_restoreLink 21 = .ok (.iload_n 1, 1) := by decide +kernel
theorem dX2_restoreLink_22 : decode cX2_restoreLink 22 = .ok (.iload_n 2, 1) := by decide +kernel
theorem dX2_restoreLink_23 : decode cX2_restoreLink 23 = .ok (.invokevirtual 50, 3) := by decide +kernel
theorem dX2_restoreLink_26 : decode cX2_restoreLink 26 = .ok (.ifCond .eq 8, 3) := by decide +kernel
theorem dX2_restoreLink_29 : decode cX2_restoreLink 29 = .ok (.aload_n 0, 1) := by decide +kernel
theorem dX2_restoreLink_30 : decode cX2_restoreLink 30 = .ok (.invokevirtual 53, 3) := by decide +kernel
theorem dX2_restoreLink_33 : decode cX2_restoreLink 33 = .ok (.ireturn, 1) := by decide +kernel
theorem dX2_restoreLink_34 : decode cX2_restoreLink 34 = .ok (.aload_n 0, 1) := by decide +kernel
theorem dX2_restoreLink_35 : decode cX2_restoreLink 35 = .ok (.getfield 19, 3) := by decide +kernel
theorem dX2_restoreLink_38 : decode cX2_restoreLink 38 = .ok (.aload_n 0, 1) := by decide +kernel
theorem dX2_restoreLink_39 : decode cX2_restoreLink 39 = .ok (.getfield 12, 3) := by decide +kernel
theorem dX2_restoreLink_42 : decode cX2_restoreLink 42 = .ok (.invokevirtual 38, 3) := by decide +kernel
theorem dX2_restoreLink_45 : decode cX2_restoreLink 45 = .ok (.aload_n 0, 1) := by decide +kernel
theorem dX2_restoreLink_46 : decode cX2_restoreLink 46 = .ok (.getfield 12, 3) := by decide +kernel
theorem dX2_restoreLink_49 : decode cX2_restoreLink 49 = .ok (.aload_n 0, 1) := by decide +kernel
theorem dX2_restoreLink_50 : decode cX2_restoreLink 50 = .ok (.getfield 23, 3) := by decide +kernel
theorem dX2_restoreLink_53 : decode cX2_restoreLink 53 = .ok (.invokevirtual 60, 3) := by decide +kernel
theorem dX2_restoreLink_56 : decode cX2_restoreLink 56 = .ok (.aload_n 0, 1) := by decide +kernel
theorem dX2_restoreLink_57 : decode cX2_restoreLink 57 = .ok (.getfield 12, 3) := by decide +kernel
theorem dX2_restoreLink_60 : decode cX2_restoreLink 60 = .ok (.iload_n 1, 1) := by decide +kernel
theorem dX2_restoreLink_61 : decode cX2_restoreLink 61 = .ok (.iload_n 2, 1) := by decide +kernel
theorem dX2_restoreLink_62 : decode cX2_restoreLink 62 = .ok (.invokevirtual 64, 3) := by decide +kernel
theorem dX2_restoreLink_65 : decode cX2_restoreLink 65 = .ok (.aload_n 0, 1) := by decide +kernel
theorem dX2_restoreLink_66 : decode cX2_restoreLink 66 = .ok (.getfield 12, 3) := by decide +kernel
theorem dX2_restoreLink_69 : decode cX2_restoreLink 69 = .ok (.aload_n 0, 1) := by decide +kernel
theorem dX2_restoreLink_70 : decode cX2_restoreLink 70 = .ok (.getfield 23, 3) := by decide +kernel
theorem dX2_restoreLink_73 : decode cX2_restoreLink 73 = .ok (.invokevirtual 68, 3) := by decide +kernel
theorem dX2_restoreLink_76 : decode cX2_restoreLink 76 = .ok (.ireturn, 1) := by decide +kernel
theorem dX2_acknowledge_0 : decode cX2_acknowledge 0 = .ok (.aload_n 0, 1) := by decide +kernel
theorem dX2_acknowledge_1 : decode cX2_acknowledge 1 = .ok (.getfield 12, 3) := by decide +kernel
theorem dX2_acknowledge_4 : decode cX2_acknowledge 4 = .ok (.iload_n 1, 1) := by decide +kernel
theorem dX2_acknowledge_5 : decode cX2_acknowledge 5 = .ok (.iload_n 2, 1) := by decide +kernel
theorem dX2_acknowledge_6 : decode cX2_acknowledge 6 = .ok (.invokevirtual 46, 3) := by decide +kernel
theorem dX2_acknowledge_9 : decode cX2_acknowledge 9 = .ok (.ifCond .eq 14, 3) := by decide +kernel
theorem dX2_acknowledge_12 : decode cX2_acknowledge 12 = .ok (.iload_n 3, 1) := by decide +kernel
theorem dX2_acknowledge_13 : decode cX2_acknowledge 13 = .ok (.iconst 1, 1) := by decide +kernel
theorem dX2_acknowledge_14 : decode cX2_acknowledge 14 = .ok (.if_icmp .lt 9, 3) := by decide +kernel
theorem dX2_acknowledge_17 : decode cX2_acknowledge 17 = .ok (.iload_n 3, 1) := by decide +kernel
theorem dX2_acknowledge_18 : decode cX2_acknowledge 18 = .ok (.bipush 10, 2) := by decide +kernel
theorem dX2_acknowledge_20 : decode cX2_acknowledge 20 = .ok (.if_icmp .le 8, 3) := by decide +kernel
theorem dX2_acknowledge_23 : decode cX2_acknowledge 23 = .ok (.aload_n 0, 1) := by decide +kernel
theorem dX2_acknowledge_24 : decode cX2_acknowledge 24 = .ok (.invokevirtual 27, 3) := by decide +kernel
theorem dX2_acknowledge_27 : decode cX2_acknowledge 27 = .ok (.ireturn, 1) := by decide +kernel
theorem dX2_acknowledge_28 : decode cX2_acknowledge 28 = .ok (.aload_n 0, 1) := by decide +kernel
theorem dX2_acknowledge_29 : decode cX2_acknowledge 29 = .ok (.getfield 19, 3) := by decide +kernel
theorem dX2_acknowledge_32 : decode cX2_acknowledge 32 = .ok (.aload_n 0, 1) := by decide +kernel
theorem dX2_acknowledge_33 : decode cX2_acknowledge 33 = .ok (.getfield 12, 3) := by decide +kernel
theorem dX2_acknowledge_36 : decode cX2_acknowledge 36 = .ok (.invokevirtual 38, 3) := by decide +kernel
theorem dX2_acknowledge_39 : decode cX2_acknowledge 39 = .ok (.aload_n 0, 1) := by decide +kernel
theorem dX2_acknowledge_40 : decode cX2_acknowledge 40 = .ok (.getfield 12, 3) := by decide +kernel
theorem dX2_acknowledge_43 : decode cX2_acknowledge 43 = .ok (.iload_n 1, 1) := by decide +kernel
theorem dX2_acknowledge_44 : decode cX2_acknowledge 44 = .ok (.iload_n 2, 1) := by decide +kernel
theorem dX2_acknowledge_45 : decode cX2_acknowledge 45 = .ok (.invokestatic 72, 3) := by decide +kernel
theorem dX2_acknowledge_48 : decode cX2_acknowledge 48 = .ok (.iload_n 3, 1) := by decide +kernel
theorem dX2_acknowledge_49 : decode cX2_acknowledge 49 = .ok (.invokevirtual 75, 3) := by decide +kernel
theorem dX2_acknowledge_52 : decode cX2_acknowledge 52 = .ok (.ireturn, 1) := by decide +kernel
theorem dX2_queueLength_0 : decode cX2_queueLength 0 = .ok (.aload_n 0, 1) := by decide +kernel
theorem dX2_queueLength_1 : decode cX2_queueLength 1 = .ok (.getfield 12, 3) := by decide +kernel
theorem dX2_queueLength_4 : decode cX2_queueLength 4 = .ok (.iload_n 1, 1) := by decide +kernel
theorem dX2_queueLength_5 : decode cX2_queueLength 5 = .ok (.iload_n 2, 1) := by decide +kernel
theorem dX2_queueLength_6 : decode cX2_queueLength 6 = .ok (.invokevirtual 46, 3) := by decide +kernel
theorem dX2_queueLength_9 : decode cX2_queueLength 9 = .ok (.ifCond .ne 8, 3) := by decide +kernel
theorem dX2_queueLength_12 : decode cX2_queueLength 12 = .ok (.aload_n 0, 1) := by decide +kernel
theorem dX2_queueLength_13 : decode cX2_queueLength 13 = .ok (.invokevirtual 27, 3) := by decide +kernel
theorem dX2_queueLength_16 : decode cX2_queueLength 16 = .ok (.ireturn, 1) := by decide +kernel
theorem dX2_queueLength_17 : decode cX2_queueLength 17 = .ok (.aload_n 0, 1) := by decide +kernel
theorem dX2_queueLength_18 : decode cX2_queueLength 18 = .ok (.getfield 12, 3) := by decide +kernel
theorem dX2_queueLength_21 : decode cX2_queueLength 21 = .ok (.getfield 78, 3) := by decide +kernel
theorem dX2_queueLength_24 : decode cX2_queueLength 24 = .ok (.iload_n 1, 1) := by decide +kernel
theorem dX2_queueLength_25 : decode cX2_queueLength 25 = .ok (.iload_n 2, 1) := by decide +kernel
theorem dX2_queueLength_26 : decode cX2_queueLength 26 = .ok (.invokestatic 72, 3) := by decide +kernel
theorem dX2_queueLength_29 : decode cX2_queueLength 29 = .ok (.iaload, 1) := by decide +kernel
theorem dX2_queueLength_30 : decode cX2_queueLength 30 = .ok (.ireturn, 1) := by decide +kernel
theorem dX2_queued_0 : decode cX2_queued 0 = .ok (.aload_n 0, 1) := by decide +kernel
theorem dX2_queued_1 : decode cX2_queued 1 = .ok (.getfield 12, 3) := by decide +kernel
theorem dX2_queued_4 : decode cX2_queued 4 = .ok (.iload_n 1, 1) := by decide +kernel
theorem dX2_queued_5 : decode cX2_queued 5 = .ok (.iload_n 2, 1) := by decide +kernel
theorem dX2_queued_6 : decode cX2_queued 6 = .ok (.invokevirtual 46, 3) := by decide +kernel
theorem dX2_queued_9 : decode cX2_queued 9 = .ok (.ifCond .eq 7, 3) := by decide +kernel
theorem dX2_queued_12 : decode cX2_queued 12 = .ok (.iload_n 3, 1) := by decide +kernel
theorem dX2_queued_13 : decode cX2_queued 13 = .ok (.ifCond .ge 8, 3) := by decide +kernel
theorem dX2_queued_16 : decode cX2_queued 16 = .ok (.aload_n 0, 1) := by decide +kernel
theorem dX2_queued_17 : decode cX2_queued 17 = .ok (.invokevirtual 27, 3) := by decide +kernel
theorem dX2_queued_20 : decode cX2_queued 20 = .ok (.ireturn, 1) := by decide +kernel
theorem dX2_queued_21 : decode cX2_queued 21 = .ok (.iload_n 1, 1) := by decide +kernel
theorem dX2_queued_22 : decode cX2_queued 22 = .ok (.iload_n 2, 1) := by decide +kernel
theorem dX2_queued_23 : decode cX2_queued 23 = .ok (.invokestatic 72, 3) := by decide +kernel
theorem dX2_queued_26 : decode cX2_queued 26 = .ok (.istore 4, 2) := by decide +kernel
theorem dX2_queued_28 : decode cX2_queued 28 = .ok (.iload_n 3, 1) := by decide +kernel
theorem dX2_queued_29 : decode cX2_queued 29 = .ok (.aload_n 0, 1) := by decide +kernel
theorem dX2_queued_30 : decode cX2_queued 30 = .ok (.getfield 12, 3) := by decide +kernel
theorem dX2_queued_33 : decode cX2_queued 33 = .ok (.getfield 78, 3) := by decide +kernel
theorem dX2_queued_36 : decode cX2_queued 36 = .ok (.iload 4, 2) := by decide +kernel
theorem dX2_queued_38 : decode cX2_queued 38 = .ok (.iaload, 1) := by decide +kernel
theorem dX2_queued_39 : decode cX2_queued 39 = .ok (.if_icmp .lt 5, 3) := by decide +kernel
theorem dX2_queued_42 : decode cX2_queued 42 = .ok (.iconst (-1), 1) := by decide +kernel
theorem dX2_queued_43 : decode cX2_queued 43 = .ok (.ireturn, 1) := by decide +kernel
theorem dX2_queued_44 : decode cX2_queued 44 = .ok (.aload_n 0, 1) := by decide +kernel
theorem dX2_queued_45 : decode cX2_queued 45 = .ok (.getfield 12, 3) := by decide +kernel
theorem dX2_queued_48 : decode cX2_queued 48 = .ok (.getfield 81, 3) := by decide +kernel
theorem dX2_queued_51 : decode cX2_queued 51 = .ok (.iload 4, 2) := by decide +kernel
theorem dX2_queued_53 : decode cX2_queued 53 = .ok (.bipush 10, 2) := by decide +kernel
theorem dX2_queued_55 : decode cX2_queued 55 = .ok (.imul, 1) := by decide +kernel
theorem dX2_queued_56 : decode cX2_queued 56 = .ok (.iload_n 3, 1) := by decide +kernel
theorem dX2_queued_57 : decode cX2_queued 57 = .ok (.iadd, 1) := by decide +kernel
theorem dX2_queued_58 : decode cX2_queued 58 = .ok (.iaload, 1) := by decide +kernel
theorem dX2_queued_59 : decode cX2_queued 59 = .ok (.invokestatic 84, 3) := by decide +kernel
theorem dX2_queued_62 : decode cX2_queued 62 = .ok (.ireturn, 1) := by decide +kernel
theorem dX2_congestion_0 : decode cX2_congestion 0 = .ok (.aload_n 0, 1) := by decide +kernel
theorem dX2_congestion_1 : decode cX2_congestion 1 = .ok (.getfield 12, 3) := by decide +kernel
theorem dX2_congestion_4 : decode cX2_congestion 4 = .ok (.iload_n 1, 1) := by decide +kernel
theorem dX2_congestion_5 : decode cX2_congestion 5 = .ok (.iload_n 2, 1) := by decide +kernel
theorem dX2_congestion_6 : decode cX2_congestion 6 = .ok (.invokevirtual 46, 3) := by decide +kernel
theorem dX2_congestion_9 : decode cX2_congestion 9 = .ok (.ifCond .ne 8, 3) := by decide +kernel
theorem dX2_congestion_12 : decode cX2_congestion 12 = .ok (.aload_n 0, 1) := by decide +kernel
theorem dX2_congestion_13 : decode cX2_congestion 13 = .ok (.invokevirtual 27, 3) := by decide +kernel
theorem dX2_congestion_16 : decode cX2_congestion 16 = .ok (.ireturn, 1) := by decide +kernel
theorem dX2_congestion_17 : decode cX2_congestion 17 = .ok (.aload_n 0, 1) := by decide +kernel
theorem dX2_congestion_18 : decode cX2_congestion 18 = .ok (.getfield 12, 3) := by decide +kernel
theorem dX2_congestion_21 : decode cX2_congestion 21 = .ok (.iload_n 1, 1) := by decide +kernel
theorem dX2_congestion_22 : decode cX2_congestion 22 = .ok (.iload_n 2, 1) := by decide +kernel
theorem dX2_congestion_23 : decode cX2_congestion 23 = .ok (.invokestatic 72, 3) := by decide +kernel
theorem dX2_congestion_26 : decode cX2_congestion 26 = .ok (.invokevirtual 87, 3) := by decide +kernel
theorem dX2_congestion_29 : decode cX2_congestion 29 = .ok (.ireturn, 1) := by decide +kernel
theorem dX2_isActive_0 : decode cX2_isActive 0 = .ok (.aload_n 0, 1) := by decide +kernel
theorem dX2_isActive_1 : decode cX2_isActive 1 = .ok (.getfield 12, 3) := by decide +kernel
theorem dX2_isActive_4 : decode cX2_isActive 4 = .ok (.iload_n 1, 1) := by decide +kernel
theorem dX2_isActive_5 : decode cX2_isActive 5 = .ok (.iload_n 2, 1) := by decide +kernel
theorem dX2_isActive_6 : decode cX2_isActive 6 = .ok (.invokevirtual 46, 3) := by decide +kernel
theorem dX2_isActive_9 : decode cX2_isActive 9 = .ok (.ifCond .ne 8, 3) := by decide +kernel
theorem dX2_isActive_12 : decode cX2_isActive 12 = .ok (.aload_n 0, 1) := by decide +kernel
theorem dX2_isActive_13 : decode cX2_isActive 13 = .ok (.invokevirtual 27, 3) := by decide +kernel
theorem dX2_isActive_16 : decode cX2_isActive 16 = .ok (.ireturn, 1) := by decide +kernel
theorem dX2_isActive_17 : decode cX2_isActive 17 = .ok (.aload_n 0, 1) := by decide +kernel
theorem dX2_isActive_18 : decode cX2_isActive 18 = .ok (.getfield 12, 3) := by decide +kernel
theorem dX2_isActive_21 : decode cX2_isActive 21 = .ok (.iload_n 1, 1) := by decide +kernel
theorem dX2_isActive_22 : decode cX2_isActive 22 = .ok (.iload_n 2, 1) := by decide +kernel
theorem dX2_isActive_23 : decode cX2_isActive 23 = .ok (.invokevirtual 50, 3) := by decide +kernel
theorem dX2_isActive_26 : decode cX2_isActive 26 = .ok (.ifCond .eq 7, 3) := by decide +kernel
theorem dX2_isActive_29 : decode cX2_isActive 29 = .ok (.iconst 1, 1) := by decide +kernel
theorem dX2_isActive_30 : decode cX2_isActive 30 = .ok (.goto 4, 3) := by decide +kernel
theorem dX2_isActive_33 : decode cX2_isActive 33 = .ok (.iconst 0, 1) := by decide +kernel
theorem dX2_isActive_34 : decode cX2_isActive 34 = .ok (.ireturn, 1) := by decide +kernel
theorem dX2_addRoute_0 : decode cX2_addRoute 0 = .ok (.aload_n 0, 1) := by decide +kernel
theorem dX2_addRoute_1 : decode cX2_addRoute 1 = .ok (.getfield 12, 3) := by decide +kernel
theorem dX2_addRoute_4 : decode cX2_addRoute 4 = .ok (.iload_n 1, 1) := by decide +kernel
theorem dX2_addRoute_5 : decode cX2_addRoute 5 = .ok (.iload_n 2, 1) := by decide +kernel
theorem dX2_addRoute_6 : decode cX2_addRoute 6 = .ok (.invokevirtual 90, 3) := by decide +kernel
theorem dX2_addRoute_9 : decode cX2_addRoute 9 = .ok (.ifCond .eq 12, 3) := by decide +kernel
theorem dX2_addRoute_12 : decode cX2_addRoute 12 = .ok (.iload_n 3, 1) := by decide +kernel
theorem dX2_addRoute_13 : decode cX2_addRoute 13 = .ok (.ifCond .lt 8, 3) := by decide +kernel
theorem dX2_addRoute_16 : decode cX2_addRoute 16 = .ok (.iload_n 3, 1) := by decide +kernel
theorem dX2_addRoute_17 : decode cX2_addRoute 17 = .ok (.iconst 2, 1) := by decide +kernel
theorem dX2_addRoute_18 : decode cX2_addRoute 18 = .ok (.if_icmp .le 8, 3) := by decide +kernel
theorem dX2_addRoute_21 : decode cX2_addRoute 21 = .ok (.aload_n 0, 1) := by decide +kernel
theorem dX2_addRoute_22 : decode cX2_addRoute 22 = .ok (.invokevirtual 27, 3) := by decide +kernel
theorem dX2_addRoute_25 : decode cX2_addRoute 25 = .ok (.ireturn, 1) := by decide +kernel
theorem dX2_addRoute_26 : decode cX2_addRoute 26 = .ok (.iload_n 1, 1) := by decide +kernel
theorem dX2_addRoute_27 : decode cX2_addRoute 27 = .ok (.iload_n 2, 1) := by decide +kernel
theorem dX2_addRoute_28 : decode cX2_addRoute 28 = .ok (.invokestatic 93, 3) := by decide +kernel
theorem dX2_addRoute_31 : decode cX2_addRoute 31 = .ok (.istore 4, 2) := by decide +kernel
theorem dX2_addRoute_33 : decode cX2_addRoute 33 = .ok (.aload_n 0, 1) := by decide +kernel
theorem dX2_addRoute_34 : decode cX2_addRoute 34 = .ok (.getfield 12, 3) := by decide +kernel
theorem dX2_addRoute_37 : decode cX2_addRoute 37 = .ok (.getfield 96, 3) := by decide +kernel
theorem dX2_addRoute_40 : decode cX2_addRoute 40 = .ok (.iload 4, 2) := by decide +kernel
theorem dX2_addRoute_42 : decode cX2_addRoute 42 = .ok (.iaload, 1) := by decide +kernel
theorem dX2_addRoute_43 : decode cX2_addRoute 43 = .ok (.iconst (-1), 1) := by decide +kernel
theorem dX2_addRoute_44 : decode cX2_addRoute 44 = .ok (.if_icmp .eq 8, 3) := by decide +kernel
theorem dX2_addRoute_47 : decode cX2_addRoute 47 = .ok (.aload_n 0, 1) := by decide +kernel
theorem dX2_addRoute_48 : decode cX2_addRoute 48 = .ok (.invokevirtual 53, 3) := by decide +kernel
theorem dX2_addRoute_51 : decode cX2_addRoute 51 = .ok (.ireturn, 1) := by decide +kernel
theorem dX2_addRoute_52 : decode cX2_addRoute 52 = .ok (.aload_n 0, 1) := by decide +kernel
theorem dX2_addRoute_53 : decode cX2_addRoute 53 = .ok (.getfield 19, 3) := by decide +kernel
theorem dX2_addRoute_56 : decode cX2_addRoute 56 = .ok (.aload_n 0, 1) := by decide +kernel
theorem dX2_addRoute_57 : decode cX2_addRoute 57 = .ok (.getfield 12, 3) := by decide +kernel
theorem dX2_addRoute_60 : decode cX2_addRoute 60 = .ok (.invokevirtual 38, 3) := by decide +kernel
theorem dX2_addRoute_63 : decode cX2_addRoute 63 = .ok (.aload_n 0, 1) := by decide +kernel
theorem dX2_addRoute_64 : decode cX2_addRoute 64 = .ok (.getfield 12, 3) := by decide +kernel
theorem dX2_addRoute_67 : decode cX2_addRoute 67 = .ok (.aload_n 0, 1) := by decide +kernel
theorem dX2_addRoute_68 : decode cX2_addRoute 68 = .ok (.getfield 23, 3) := by decide +kernel
theorem dX2_addRoute_71 : decode cX2_addRoute 71 = .ok (.invokevirtual 60, 3) := by decide +kernel
theorem dX2_addRoute_74 : decode cX2_addRoute 74 = .ok (.aload_n 0, 1) := by decide +kernel
theorem dX2_addRoute_75 : decode cX2_addRoute 75 = .ok (.getfield 12, 3) := by decide +kernel
theorem dX2_addRoute_78 : decode cX2_addRoute 78 = .ok (.getfield 96, 3) := by decide +kernel
theorem dX2_addRoute_81 : decode cX2_addRoute 81 = .ok (.iload 4, 2) := by decide +kernel
theorem dX2_addRoute_83 : decode cX2_addRoute 83 = .ok (.iconst 0, 1) := by decide +kernel
theorem dX2_addRoute_84 : decode cX2_addRoute 84 = .ok (.iastore, 1) := by decide +kernel
theorem dX2_addRoute_85 : decode cX2_addRoute 85 = .ok (.aload_n 0, 1) := by decide +kernel
theorem dX2_addRoute_86 : decode cX2_addRoute 86 = .ok (.getfield 12, 3) := by decide +kernel
theorem dX2_addRoute_89 : decode cX2_addRoute 89 = .ok (.getfield 99, 3) := by decide +kernel
theorem dX2_addRoute_92 : decode cX2_addRoute 92 = .ok (.iload 4, 2) := by decide +kernel
theorem dX2_addRoute_94 : decode cX2_addRoute 94 = .ok (.iload_n 3, 1) := by decide +kernel
theorem dX2_addRoute_95 : decode cX2_addRoute 95 = .ok (.iastore, 1) := by decide +kernel
theorem dX2_addRoute_96 : decode cX2_addRoute 96 = .ok (.aload_n 0, 1) := by decide +kernel
theorem dX2_addRoute_97 : decode cX2_addRoute 97 = .ok (.getfield 12, 3) := by decide +kernel
theorem dX2_addRoute_100 : decode cX2_addRoute 100 = .ok (.aload_n 0, 1) := by decide +kernel
theorem dX2_addRoute_101 : decode cX2_addRoute 101 = .ok (.getfield 23, 3) := by decide +kernel
theorem dX2_addRoute_104 : decode cX2_addRoute 104 = .ok (.invokevirtual 68, 3) := by decide +kernel
theorem dX2_addRoute_107 : decode cX2_addRoute 107 = .ok (.ireturn, 1) := by decide +kernel
theorem dX2_removeRoute_0 : decode cX2_removeRoute 0 = .ok (.aload_n 0, 1) := by decide +kernel
theorem dX2_removeRoute_1 : decode cX2_removeRoute 1 = .ok (.getfield 12, 3) := by decide +kernel
theorem dX2_removeRoute_4 : decode cX2_removeRoute 4 = .ok (.iload_n 1, 1) := by decide +kernel
theorem dX2_removeRoute_5 : decode cX2_removeRoute 5 = .ok (.iload_n 2, 1) := by decide +kernel
theorem dX2_removeRoute_6 : decode cX2_removeRoute 6 = .ok (.invokevirtual 90, 3) := by decide +kernel
theorem dX2_removeRoute_9 : decode cX2_removeRoute 9 = .ok (.ifCond .ne 8, 3) := by decide +kernel
theorem dX2_removeRoute_12 : decode cX2_removeRoute 12 = .ok (.aload_n 0, 1) := by decide +kernel
theorem dX2_removeRoute_13 : decode cX2_removeRoute 13 = .ok (.invokevirtual 27, 3) := by decide +kernel
theorem dX2_removeRoute_16 : decode cX2_removeRoute 16 = .ok (.ireturn, 1) := by decide +kernel
theorem dX2_removeRoute_17 : decode cX2_removeRoute 17 = .ok (.iload_n 1, 1) := by decide +kernel
theorem dX2_removeRoute_18 : decode cX2_removeRoute 18 = .ok (.iload_n 2, 1) := by decide +kernel
theorem dX2_removeRoute_19 : decode cX2_removeRoute 19 = .ok (.invokestatic 93, 3) := by decide +kernel
theorem dX2_removeRoute_22 : decode cX2_removeRoute 22 = .ok (.istore_n 3, 1) := by decide +kernel
theorem dX2_removeRoute_23 : decode cX2_removeRoute 23 = .ok (.aload_n 0, 1) := by decide +kernel
theorem dX2_removeRoute_24 : decode cX2_removeRoute 24 = .ok (.getfield 12, 3) := by decide +kernel
theorem dX2_removeRoute_27 : decode cX2_removeRoute 27 = .ok (.getfield 96, 3) := by decide +kernel
theorem dX2_removeRoute_30 : decode cX2_removeRoute 30 = .ok (.iload_n 3, 1) := by decide +kernel
theorem dX2_removeRoute_31 : decode cX2_removeRoute 31 = .ok (.iaload, 1) := by decide +kernel
theorem dX2_removeRoute_32 : decode cX2_removeRoute 32 = .ok (.istore 4, 2) := by decide +kernel
theorem dX2_removeRoute_34 : decode cX2_removeRoute 34 = .ok (.iload 4, 2) := by decide +kernel
theorem dX2_removeRoute_36 : decode cX2_removeRoute 36 = .ok (.iconst (-1), 1) := by decide +kernel
theorem dX2_removeRoute_37 : decode cX2_removeRoute 37 = .ok (.if_icmp .ne 8, 3) := by decide +kernel
theorem dX2_removeRoute_40 : decode cX2_removeRoute 40 = .ok (.aload_n 0, 1) := by decide +kernel
theorem dX2_removeRoute_41 : decode cX2_removeRoute 41 = .ok (.invokevirtual 53, 3) := by decide +kernel
theorem dX2_removeRoute_44 : decode cX2_removeRoute 44 = .ok (.ireturn, 1) := by decide +kernel
theorem dX2_removeRoute_45 : decode cX2_removeRoute 45 = .ok (.aload_n 0, 1) := by decide +kernel
theorem dX2_removeRoute_46 : decode cX2_removeRoute 46 = .ok (.getfield 19, 3) := by decide +kernel
theorem dX2_removeRoute_49 : decode cX2_removeRoute 49 = .ok (.aload_n 0, 1) := by decide +kernel
theorem dX2_removeRoute_50 : decode cX2_removeRoute 50 = .ok (.getfield 12, 3) := by decide +kernel
theorem dX2_removeRoute_53 : decode cX2_removeRoute 53 = .ok (.invokevirtual 38, 3) := by decide +kernel
theorem dX2_removeRoute_56 : decode cX2_removeRoute 56 = .ok (.aload_n 0, 1) := by decide +kernel
theorem dX2_removeRoute_57 : decode cX2_removeRoute 57 = .ok (.getfield 12, 3) := by decide +kernel
theorem dX2_removeRoute_60 : decode cX2_removeRoute 60 = .ok (.getfield 96, 3) := by decide +kernel
theorem dX2_removeRoute_63 : decode cX2_removeRoute 63 = .ok (.iload_n 3, 1) := by decide +kernel
theorem dX2_removeRoute_64 : decode cX2_removeRoute 64 = .ok (.iconst (-1), 1) := by decide +kernel
theorem dX2_removeRoute_65 : decode cX2_removeRoute 65 = .ok (.iastore, 1) := by decide +kernel
theorem dX2_removeRoute_66 : decode cX2_removeRoute 66 = .ok (.aload_n 0, 1) := by decide +kernel
theorem dX2_removeRoute_67 : decode cX2_removeRoute 67 = .ok (.getfield 12, 3) := by decide +kernel
theorem dX2_removeRoute_70 : decode cX2_removeRoute 70 = .ok (.getfield 99, 3) := by decide +kernel
theorem dX2_removeRoute_73 : decode cX2_removeRoute 73 = .ok (.iload_n 3, 1) := by decide +kernel
theorem dX2_removeRoute_74 : decode cX2_removeRoute 74 = .ok (.iconst (-1), 1) := by decide +kernel
theorem dX2_removeRoute_75 : decode cX2_removeRoute 75 = .ok (.iastore, 1) := by decide +kernel
theorem dX2_removeRoute_76 : decode cX2_removeRoute 76 = .ok (.iload 4, 2) := by decide +kernel
theorem dX2_removeRoute_78 : decode cX2_removeRoute 78 = .ok (.ireturn, 1) := by decide +kernel
theorem dX2_setRouteState_0 : decode cX2_setRouteState 0 = .ok (.aload_n 0, 1) := by decide +kernel
theorem dX2_setRouteState_1 : decode cX2_setRouteState 1 = .ok (.getfield 12, 3) := by decide +kernel
theorem dX2_setRouteState_4 : decode cX2_setRouteState 4 = .ok (.iload_n 1, 1) := by decide +kernel
theorem dX2_setRouteState_5 : decode cX2_setRouteState 5 = .ok (.iload_n 2, 1) := by decide +kernel
theorem dX2_setRouteState_6 : decode cX2_setRouteState 6 = .ok (.invokevirtual 90, 3) := by decide +kernel
theorem dX2_setRouteState_9 : decode cX2_setRouteState 9 = .ok (.ifCond .eq 12, 3) := by decide +kernel
theorem dX2_setRouteState_12 : decode cX2_setRouteState 12 = .ok (.iload_n 3, 1) := by decide +kernel
theorem dX2_setRouteState_13 : decode cX2_setRouteState 13 = .ok (.ifCond .lt 8, 3) := by decide +kernel
theorem dX2_setRouteState_16 : decode cX2_setRouteState 16 = .ok (.iload_n 3, 1) := by decide +kernel
theorem dX2_setRouteState_17 : decode cX2_setRouteState 17 = .ok (.iconst 2, 1) := by decide +kernel
theorem dX2_setRouteState_18 : decode cX2_setRouteState 18 = .ok (.if_icmp .le 8, 3) := by decide +kernel
theorem dX2_setRouteState_21 : decode cX2_setRouteState 21 = .ok (.aload_n 0, 1) := by decide +kernel
theorem dX2_setRouteState_22 : decode cX2_setRouteState 22 = .ok (.invokevirtual 27, 3) := by decide +kernel
theorem dX2_setRouteState_25 : decode cX2_setRouteState 25 = .ok (.ireturn, 1) := by decide +kernel
theorem dX2_setRouteState_26 : decode cX2_setRouteState 26 = .ok (.iload_n 1, 1) := by decide +kernel
theorem dX2_setRouteState_27 : decode cX2_setRouteState 27 = .ok (.iload_n 2, 1) := by decide +kernel
theorem dX2_setRouteState_28 : decode cX2_setRouteState 28 = .ok (.invokestatic 93, 3) := by decide +kernel
theorem dX2_setRouteState_31 : decode cX2_setRouteState 31 = .ok (.istore 4, 2) := by decide +kernel
theorem dX2_setRouteState_33 : decode cX2_setRouteState 33 = .ok (.aload_n 0, 1) := by decide +kernel
theorem dX2_setRouteState_34 : decode cX2_setRouteState 34 = .ok (.getfield 12, 3) := by decide +kernel
theorem dX2_setRouteState_37 : decode cX2_setRouteState 37 = .ok (.getfield 96, 3) := by decide +kernel
theorem dX2_setRouteState_40 : decode cX2_setRouteState 40 = .ok (.iload 4, 2) := by decide +kernel
theorem dX2_setRouteState_42 : decode cX2_setRouteState 42 = .ok (.iaload, 1) := by decide +kernel
theorem dX2_setRouteState_43 : decode cX2_setRouteState 43 = .ok (.istore 5, 2) := by decide +kernel
theorem dX2_setRouteState_45 : decode cX2_setRouteState 45 = .ok (.iload 5, 2) := by decide +kernel
theorem dX2_setRouteState_47 : decode cX2_setRouteState 47 = .ok (.iconst (-1), 1) := by decide +kernel
theorem dX2_setRouteState_48 : decode cX2_setRouteState 48 = .ok (.if_icmp .ne 8, 3) := by decide +kernel
theorem dX2_setRouteState_51 : decode cX2_setRouteState 51 = .ok (.aload_n 0, 1) := by decide +kernel
theorem dX2_setRouteState_52 : decode cX2_setRouteState 52 = .ok (.invokevirtual 53, 3) := by decide +kernel
theorem dX2_setRouteState_55 : decode cX2_setRouteState 55 = .ok (.ireturn, 1) := by decide +kernel
theorem dX2_setRouteState_56 : decode cX2_setRouteState 56 = .ok (.aload_n 0, 1) := by decide +kernel
theorem dX2_setRouteState_57 : decode cX2_setRouteState 57 = .ok (.getfield 19, 3) := by decide +kernel
theorem dX2_setRouteState_60 : decode cX2_setRouteState 60 = .ok (.aload_n 0, 1) := by decide +kernel
theorem dX2_setRouteState_61 : decode cX2_setRouteState 61 = .ok (.getfield 12, 3) := by decide +kernel
theorem dX2_setRouteState_64 : decode cX2_setRouteState 64 = .ok (.invokevirtual 38, 3) := by decide +kernel
theorem dX2_setRouteState_67 : decode cX2_setRouteState 67 = .ok (.aload_n 0, 1) := by decide +kernel
theorem dX2_setRouteState_68 : decode cX2_setRouteState 68 = .ok (.getfield 12, 3) := by decide +kernel
theorem dX2_setRouteState_71 : decode cX2_setRouteState 71 = .ok (.aload_n 0, 1) := by decide +kernel
theorem dX2_setRouteState_72 : decode cX2_setRouteState 72 = .ok (.getfield 23, 3) := by decide +kernel
theorem dX2_setRouteState_75 : decode cX2_setRouteState 75 = .ok (.invokevirtual 60, 3) := by decide +kernel
theorem dX2_setRouteState_78 : decode cX2_setRouteState 78 = .ok (.aload_n 0, 1) := by decide +kernel
theorem dX2_setRouteState_79 : decode cX2_setRouteState 79 = .ok (.getfield 12, 3) := by decide +kernel
theorem dX2_setRouteState_82 : decode cX2_setRouteState 82 = .ok (.getfield 96, 3) := by decide +kernel
theorem dX2_setRouteState_85 : decode cX2_setRouteState 85 = .ok (.iload 4, 2) := by decide +kernel
theorem dX2_setRouteState_87 : decode cX2_setRouteState 87 = .ok (.iload_n 3, 1) := by decide +kernel
theorem dX2_setRouteState_88 : decode cX2_setRouteState 88 = .ok (.iastore, 1) := by decide +kernel
theorem dX2_setRouteState_89 : decode cX2_setRouteState 89 = .ok (.iload_n 3, 1) := by decide +kernel
theorem dX2_setRouteState_90 : decode cX2_setRouteState 90 = .ok (.iload 5, 2) := by decide +kernel
theorem dX2_setRouteState_92 : decode cX2_setRouteState 92 = .ok (.if_icmp .ge 15, 3) := by decide +kernel
theorem dX2_setRouteState_95 : decode cX2_setRouteState 95 = .ok (.aload_n 0, 1) := by decide +kernel
theorem dX2_setRouteState_96 : decode cX2_setRouteState 96 = .ok (.getfield 12, 3) := by decide +kernel
theorem dX2_setRouteState_99 : decode cX2_setRouteState 99 = .ok (.aload_n 0, 1) := by decide +kernel
theorem dX2_setRouteState_100 : decode cX2_setRouteState 100 = .ok (.getfield 23, 3) := by decide +kernel
theorem dX2_setRouteState_103 : decode cX2_setRouteState 103 = .ok (.invokevirtual 68, 3) := by decide +kernel
theorem dX2_setRouteState_106 : decode cX2_setRouteState 106 = .ok (.pop, 1) := by decide +kernel
theorem dX2_setRouteState_107 : decode cX2_setRouteState 107 = .ok (.iload 5, 2) := by decide +kernel
theorem dX2_setRouteState_109 : decode cX2_setRouteState 109 = .ok (.ireturn, 1) := by decide +kernel
theorem dX2_routeState_0 : decode cX2_routeState 0 = .ok (.aload_n 0, 1) := by decide +kernel
theorem dX2_routeState_1 : decode cX2_routeState 1 = .ok (.getfield 12, 3) := by decide +kernel
theorem dX2_routeState_4 : decode cX2_routeState 4 = .ok (.iload_n 1, 1) := by decide +kernel
theorem dX2_routeState_5 : decode cX2_routeState 5 = .ok (.iload_n 2, 1) := by decide +kernel
theorem dX2_routeState_6 : decode cX2_routeState 6 = .ok (.invokevirtual 90, 3) := by decide +kernel
theorem dX2_routeState_9 : decode cX2_routeState 9 = .ok (.ifCond .ne 8, 3) := by decide +kernel
theorem dX2_routeState_12 : decode cX2_routeState 12 = .ok (.aload_n 0, 1) := by decide +kernel
theorem dX2_routeState_13 : decode cX2_routeState 13 = .ok (.invokevirtual 27, 3) := by decide +kernel
theorem dX2_routeState_16 : decode cX2_routeState 16 = .ok (.ireturn, 1) := by decide +kernel
theorem dX2_routeState_17 : decode cX2_routeState 17 = .ok (.aload_n 0, 1) := by decide +kernel
theorem dX2_routeState_18 : decode cX2_routeState 18 = .ok (.getfield 12, 3) := by decide +kernel
theorem dX2_routeState_21 : decode cX2_routeState 21 = .ok (.getfield 96, 3) := by decide +kernel
theorem dX2_routeState_24 : decode cX2_routeState 24 = .ok (.iload_n 1, 1) := by decide +kernel
theorem dX2_routeState_25 : decode cX2_routeState 25 = .ok (.iload_n 2, 1) := by decide +kernel
theorem dX2_routeState_26 : decode cX2_routeState 26 = .ok (.invokestatic 93, 3) := by decide +kernel
theorem dX2_routeState_29 : decode cX2_routeState 29 = .ok (.iaload, 1) := by decide +kernel
theorem dX2_routeState_30 : decode cX2_routeState 30 = .ok (.ireturn, 1) := by decide +kernel
theorem dX2_currentRoutes_0 : decode cX2_currentRoutes 0 = .ok (.iload_n 1, 1) := by decide +kernel
theorem dX2_currentRoutes_1 : decode cX2_currentRoutes 1 = .ok (.invokestatic 102, 3) := by decide +kernel
theorem dX2_currentRoutes_4 : decode cX2_currentRoutes 4 = .ok (.ifCond .ne 8, 3) := by decide +kernel
theorem dX2_currentRoutes_7 : decode cX2_currentRoutes 7 = .ok (.aload_n 0, 1) := by decide +kernel
theorem dX2_currentRoutes_8 : decode cX2_currentRoutes 8 = .ok (.invokevirtual 27, 3) := by decide +kernel
theorem dX2_currentRoutes_11 : decode cX2_currentRoutes 11 = .ok (.ireturn, 1) := by decide +kernel
theorem dX2_currentRoutes_12 : decode cX2_currentRoutes 12 = .ok (.aload_n 0, 1) := by decide +kernel
theorem dX2_currentRoutes_13 : decode cX2_currentRoutes 13 = .ok (.getfield 12, 3) := by decide +kernel
theorem dX2_currentRoutes_16 : decode cX2_currentRoutes 16 = .ok (.iload_n 1, 1) := by decide +kernel
theorem dX2_currentRoutes_17 : decode cX2_currentRoutes 17 = .ok (.invokevirtual 106, 3) := by decide +kernel
theorem dX2_currentRoutes_20 : decode cX2_currentRoutes 20 = .ok (.ireturn, 1) := by decide +kernel
theorem dX2_currentLink_0 : decode cX2_currentLink 0 = .ok (.iload_n 1, 1) := by decide +kernel
theorem dX2_currentLink_1 : decode cX2_currentLink 1 = .ok (.iload_n 2, 1) := by decide +kernel
theorem dX2_currentLink_2 : decode cX2_currentLink 2 = .ok (.invokestatic 109, 3) := by decide +kernel
theorem dX2_currentLink_5 : decode cX2_currentLink 5 = .ok (.ifCond .ne 8, 3) := by decide +kernel
theorem dX2_currentLink_8 : decode cX2_currentLink 8 = .ok (.aload_n 0, 1) := by decide +kernel
theorem dX2_currentLink_9 : decode cX2_currentLink 9 = .ok (.invokevirtual 27, 3) := by decide +kernel
theorem dX2_currentLink_12 : decode cX2_currentLink 12 = .ok (.ireturn, 1) := by decide +kernel
theorem dX2_currentLink_13 : decode cX2_currentLink 13 = .ok (.aload_n 0, 1) := by decide +kernel
theorem dX2_currentLink_14 : decode cX2_currentLink 14 = .ok (.getfield 12, 3) := by decide +kernel
theorem dX2_currentLink_17 : decode cX2_currentLink 17 = .ok (.aload_n 0, 1) := by decide +kernel
theorem dX2_currentLink_18 : decode cX2_currentLink 18 = .ok (.getfield 12, 3) := by decide +kernel
theorem dX2_currentLink_21 : decode cX2_currentLink 21 = .ok (.iload_n 1, 1) := by decide +kernel
theorem dX2_currentLink_22 : decode cX2_currentLink 22 = .ok (.invokevirtual 106, 3) := by decide +kernel
theorem dX2_currentLink_25 : decode cX2_currentLink 25 = .ok (.iload_n 2, 1) := by decide +kernel
theorem dX2_currentLink_26 : decode cX2_currentLink 26 = .ok (.invokevirtual 112, 3) := by decide +kernel
theorem dX2_currentLink_29 : decode cX2_currentLink 29 = .ok (.ireturn, 1) := by decide +kernel
theorem dX2_send_0 : decode cX2_send 0 = .ok (.iload_n 1, 1) := by decide +kernel
theorem dX2_send_1 : decode cX2_send 1 = .ok (.iload_n 2, 1) := by decide +kernel
theorem dX2_send_2 : decode cX2_send 2 = .ok (.invokestatic 109, 3) := by decide +kernel
theorem dX2_send_5 : decode cX2_send 5 = .ok (.ifCond .eq 12, 3) := by decide +kernel
theorem dX2_send_8 : decode cX2_send 8 = .ok (.iload_n 3, 1) := by decide +kernel
theorem dX2_send_9 : decode cX2_send 9 = .ok (.ifCond .lt 8, 3) := by decide +kernel
theorem dX2_send_12 : decode cX2_send 12 = .ok (.iload_n 3, 1) := by decide +kernel
theorem dX2_send_13 : decode cX2_send 13 = .ok (.iconst 3, 1) := by decide +kernel
theorem dX2_send_14 : decode cX2_send 14 = .ok (.if_icmp .le 8, 3) := by decide +kernel
theorem dX2_send_17 : decode cX2_send 17 = .ok (.aload_n 0, 1) := by decide +kernel
theorem dX2_send_18 : decode cX2_send 18 = .ok (.invokevirtual 27, 3) := by decide +kernel
theorem dX2_send_21 : decode cX2_send 21 = .ok (.ireturn, 1) := by decide +kernel
theorem dX2_send_22 : decode cX2_send 22 = .ok (.aload_n 0, 1) := by decide +kernel
theorem dX2_send_23 : decode cX2_send 23 = .ok (.getfield 19, 3) := by decide +kernel
theorem dX2_send_26 : decode cX2_send 26 = .ok (.aload_n 0, 1) := by decide +kernel
theorem dX2_send_27 : decode cX2_send 27 = .ok (.getfield 12, 3) := by decide +kernel
theorem dX2_send_30 : decode cX2_send 30 = .ok (.invokevirtual 38, 3) := by decide +kernel
theorem dX2_send_33 : decode cX2_send 33 = .ok (.aload_n 0, 1) := by decide +kernel
theorem dX2_send_34 : decode cX2_send 34 = .ok (.getfield 12, 3) := by decide +kernel
theorem dX2_send_37 : decode cX2_send 37 = .ok (.iload_n 1, 1) := by decide +kernel
theorem dX2_send_38 : decode cX2_send 38 = .ok (.iload_n 2, 1) := by decide +kernel
theorem dX2_send_39 : decode cX2_send 39 = .ok (.iload_n 3, 1) := by decide +kernel
theorem dX2_send_40 : decode cX2_send 40 = .ok (.invokevirtual 115, 3) := by decide +kernel
theorem dX2_send_43 : decode cX2_send 43 = .ok (.ireturn, 1) := by decide +kernel
theorem dX2_setHoldTime_0 : decode cX2_setHoldTime 0 = .ok (.iload_n 1, 1) := by decide +kernel
theorem dX2_setHoldTime_1 : decode cX2_setHoldTime 1 = .ok (.ifCond .lt 9, 3) := by decide +kernel
theorem dX2_setHoldTime_4 : decode cX2_setHoldTime 4 = .ok (.iload_n 1, 1) := by decide +kernel
theorem dX2_setHoldTime_5 : decode cX2_setHoldTime 5 = .ok (.bipush 9, 2) := by decide +kernel
theorem dX2_setHoldTime_7 : decode cX2_setHoldTime 7 = .ok (.if_icmp .le 8, 3) := by decide +kernel
theorem dX2_setHoldTime_10 : decode cX2_setHoldTime 10 = .ok (.aload_n 0, 1) := by decide +kernel
theorem dX2_setHoldTime_11 : decode cX2_setHoldTime 11 = .ok (.invokevirtual 27, 3) := by decide +kernel
theorem dX2_setHoldTime_14 : decode cX2_setHoldTime 14 = .ok (.ireturn, 1) := by decide +kernel
theorem dX2_setHoldTime_15 : decode cX2_setHoldTime 15 = .ok (.aload_n 0, 1) := by decide +kernel
theorem dX2_setHoldTime_16 : decode cX2_setHoldTime 16 = .ok (.getfield 19, 3) := by decide +kernel
theorem dX2_setHoldTime_19 : decode cX2_setHoldTime 19 = .ok (.aload_n 0, 1) := by decide +kernel
theorem dX2_setHoldTime_20 : decode cX2_setHoldTime 20 = .ok (.getfield 12, 3) := by decide +kernel
theorem dX2_setHoldTime_23 : decode cX2_setHoldTime 23 = .ok (.invokevirtual 38, 3) := by decide +kernel
theorem dX2_setHoldTime_26 : decode cX2_setHoldTime 26 = .ok (.aload_n 0, 1) := by decide +kernel
theorem dX2_setHoldTime_27 : decode cX2_setHoldTime 27 = .ok (.getfield 12, 3) := by decide +kernel
theorem dX2_setHoldTime_30 : decode cX2_setHoldTime 30 = .ok (.getfield 119, 3) := by decide +kernel
theorem dX2_setHoldTime_33 : decode cX2_setHoldTime 33 = .ok (.istore_n 2, 1) := by decide +kernel
theorem dX2_setHoldTime_34 : decode cX2_setHoldTime 34 = .ok (.aload_n 0, 1) := by decide +kernel
theorem dX2_setHoldTime_35 : decode cX2_setHoldTime 35 = .ok (.getfield 12, 3) := by decide +kernel
theorem dX2_setHoldTime_38 : decode cX2_setHoldTime 38 = .ok (.iload_n 1, 1) := by decide +kernel
theorem dX2_setHoldTime_39 : decode cX2_setHoldTime 39 = .ok (.putfield 119, 3) := by decide +kernel
theorem dX2_setHoldTime_42 : decode cX2_setHoldTime 42 = .ok (.iload_n 2, 1) := by decide +kernel
theorem dX2_setHoldTime_43 : decode cX2_setHoldTime 43 = .ok (.ireturn, 1) := by decide +kernel
theorem dX2_tick_0 : decode cX2_tick 0 = .ok (.aload_n 0, 1) := by decide +kernel
theorem dX2_tick_1 : decode cX2_tick 1 = .ok (.getfield 19, 3) := by decide +kernel
theorem dX2_tick_4 : decode cX2_tick 4 = .ok (.aload_n 0, 1) := by decide +kernel
theorem dX2_tick_5 : decode cX2_tick 5 = .ok (.getfield 12, 3) := by decide +kernel
theorem dX2_tick_8 : decode cX2_tick 8 = .ok (.invokevirtual 38, 3) := by decide +kernel
theorem dX2_tick_11 : decode cX2_tick 11 = .ok (.aload_n 0, 1) := by decide +kernel
theorem dX2_tick_12 : decode cX2_tick 12 = .ok (.getfield 12, 3) := by decide +kernel
theorem dX2_tick_15 : decode cX2_tick 15 = .ok (.dup, 1) := by decide +kernel
theorem dX2_tick_16 : decode cX2_tick 16 = .ok (.getfield 122, 3) := by decide +kernel
theorem dX2_tick_19 : decode cX2_tick 19 = .ok (.iconst 1, 1) := by decide +kernel
theorem dX2_tick_20 : decode cX2_tick 20 = .ok (.iadd, 1) := by decide +kernel
theorem dX2_tick_21 : decode cX2_tick 21 = .ok (.putfield 122, 3) := by decide +kernel
theorem dX2_tick_24 : decode cX2_tick 24 = .ok (.aload_n 0, 1) := by decide +kernel
theorem dX2_tick_25 : decode cX2_tick 25 = .ok (.getfield 12, 3) := by decide +kernel
theorem dX2_tick_28 : decode cX2_tick 28 = .ok (.invokevirtual 125, 3) := by decide +kernel
theorem dX2_tick_31 : decode cX2_tick 31 = .ok (.ireturn, 1) := by decide +kernel
theorem dX2_time_0 : decode cX2_time 0 = .ok (.aload_n 0, 1) := by decide +kernel
theorem dX2_time_1 : decode cX2_time 1 = .ok (.getfield 12, 3) := by decide +kernel
theorem dX2_time_4 : decode cX2_time 4 = .ok (.getfield 122, 3) := by decide +kernel
theorem dX2_time_7 : decode cX2_time 7 = .ok (.ireturn, 1) := by decide +kernel
theorem dX2_isHeld_0 : decode cX2_isHeld 0 = .ok (.iload_n 1, 1) := by decide +kernel
theorem dX2_isHeld_1 : decode cX2_isHeld 1 = .ok (.iload_n 2, 1) := by decide +kernel
theorem dX2_isHeld_2 : decode cX2_isHeld 2 = .ok (.invokestatic 109, 3) := by decide +kernel
theorem dX2_isHeld_5 : decode cX2_isHeld 5 = .ok (.ifCond .ne 8, 3) := by decide +kernel
theorem dX2_isHeld_8 : decode cX2_isHeld 8 = .ok (.aload_n 0, 1) := by decide +kernel
theorem dX2_isHeld_9 : decode cX2_isHeld 9 = .ok (.invokevirtual 27, 3) := by decide +kernel
theorem dX2_isHeld_12 : decode cX2_isHeld 12 = .ok (.ireturn, 1) := by decide +kernel
theorem dX2_isHeld_13 : decode cX2_isHeld 13 = .ok (.aload_n 0, 1) := by decide +kernel
theorem dX2_isHeld_14 : decode cX2_isHeld 14 = .ok (.getfield 12, 3) := by decide +kernel
theorem dX2_isHeld_17 : decode cX2_isHeld 17 = .ok (.iload_n 1, 1) := by decide +kernel
theorem dX2_isHeld_18 : decode cX2_isHeld 18 = .ok (.iload_n 2, 1) := by decide +kernel
theorem dX2_isHeld_19 : decode cX2_isHeld 19 = .ok (.invokestatic 128, 3) := by decide +kernel
theorem dX2_isHeld_22 : decode cX2_isHeld 22 = .ok (.invokevirtual 131, 3) := by decide +kernel
theorem dX2_isHeld_25 : decode cX2_isHeld 25 = .ok (.ifCond .eq 7, 3) := by decide +kernel
theorem dX2_isHeld_28 : decode cX2_isHeld 28 = .ok (.iconst 1, 1) := by decide +kernel
theorem dX2_isHeld_29 : decode cX2_isHeld 29 = .ok (.goto 4, 3) := by decide +kernel
theorem dX2_isHeld_32 : decode cX2_isHeld 32 = .ok (.iconst 0, 1) := by decide +kernel
theorem dX2_isHeld_33 : decode cX2_isHeld 33 = .ok (.ireturn, 1) := by decide +kernel
theorem dX2_heldMessages_0 : decode cX2_heldMessages 0 = .ok (.aload_n 0, 1) := by decide +kernel
theorem dX2_heldMessages_1 : decode cX2_heldMessages 1 = .ok (.getfield 12, 3) := by decide +kernel
theorem dX2_heldMessages_4 : decode cX2_heldMessages 4 = .ok (.getfield 134, 3) := by decide +kernel
theorem dX2_heldMessages_7 : decode cX2_heldMessages 7 = .ok (.ireturn, 1) := by decide +kernel
theorem dX2_delivered_0 : decode cX2_delivered 0 = .ok (.aload_n 0, 1) := by decide +kernel
theorem dX2_delivered_1 : decode cX2_delivered 1 = .ok (.getfield 12, 3) := by decide +kernel
theorem dX2_delivered_4 : decode cX2_delivered 4 = .ok (.getfield 137, 3) := by decide +kernel
theorem dX2_delivered_7 : decode cX2_delivered 7 = .ok (.ireturn, 1) := by decide +kernel
theorem dX2_overtaken_0 : decode cX2_overtaken 0 = .ok (.aload_n 0, 1) := by decide +kernel
theorem dX2_overtaken_1 : decode cX2_overtaken 1 = .ok (.getfield 12, 3) := by decide +kernel
theorem dX2_overtaken_4 : decode cX2_overtaken 4 = .ok (.getfield 140, 3) := by decide +kernel
theorem dX2_overtaken_7 : decode cX2_overtaken 7 = .ok (.ireturn, 1) := by decide +kernel
theorem dX2_unreachable_0 : decode cX2_unreachable 0 = .ok (.aload_n 0, 1) := by decide +kernel
theorem dX2_unreachable_1 : decode cX2_unreachable 1 = .ok (.getfield 12, 3) := by decide +kernel
theorem dX2_unreachable_4 : decode cX2_unreachable 4 = .ok (.getfield 143, 3) := by decide +kernel
theorem dX2_unreachable_7 : decode cX2_unreachable 7 = .ok (.ireturn, 1) := by decide +kernel
theorem dX2_congested_0 : decode cX2_congested 0 = .ok (.aload_n 0, 1) := by decide +kernel
theorem dX2_congested_1 : decode cX2_congested 1 = .ok (.getfield 12, 3) := by decide +kernel
theorem dX2_congested_4 : decode cX2_congested 4 = .ok (.getfield 146, 3) := by decide +kernel
theorem dX2_congested_7 : decode cX2_congested 7 = .ok (.ireturn, 1) := by decide +kernel
theorem dX2_lost_0 : decode cX2_lost 0 = .ok (.aload_n 0, 1) := by decide +kernel
theorem dX2_lost_1 : decode cX2_lost 1 = .ok (.getfield 12, 3) := by decide +kernel
theorem dX2_lost_4 : decode cX2_lost 4 = .ok (.getfield 149, 3) := by decide +kernel
theorem dX2_lost_7 : decode cX2_lost 7 = .ok (.ireturn, 1) := by decide +kernel
theorem dX2_spread_0 : decode cX2_spread 0 = .ok (.iload_n 1, 1) := by decide +kernel
theorem dX2_spread_1 : decode cX2_spread 1 = .ok (.invokestatic 102, 3) := by decide +kernel
theorem dX2_spread_4 : decode cX2_spread 4 = .ok (.ifCond .ne 8, 3) := by decide +kernel
theorem dX2_spread_7 : decode cX2_spread 7 = .ok (.aload_n 0, 1) := by decide +kernel
theorem dX2_spread_8 : decode cX2_spread 8 = .ok (.invokevirtual 27, 3) := by decide +kernel
theorem dX2_spread_11 : decode cX2_spread 11 = .ok (.ireturn, 1) := by decide +kernel
theorem dX2_spread_12 : decode cX2_spread 12 = .ok (.aload_n 0, 1) := by decide +kernel
theorem dX2_spread_13 : decode cX2_spread 13 = .ok (.getfield 12, 3) := by decide +kernel
theorem dX2_spread_16 : decode cX2_spread 16 = .ok (.iload_n 1, 1) := by decide +kernel
theorem dX2_spread_17 : decode cX2_spread 17 = .ok (.invokevirtual 152, 3) := by decide +kernel
theorem dX2_spread_20 : decode cX2_spread 20 = .ok (.ireturn, 1) := by decide +kernel
theorem dX2_undo_0 : decode cX2_undo 0 = .ok (.aload_n 0, 1) := by decide +kernel
theorem dX2_undo_1 : decode cX2_undo 1 = .ok (.getfield 19, 3) := by decide +kernel
theorem dX2_undo_4 : decode cX2_undo 4 = .ok (.getfield 155, 3) := by decide +kernel
theorem dX2_undo_7 : decode cX2_undo 7 = .ok (.ifCond .ne 8, 3) := by decide +kernel
theorem dX2_undo_10 : decode cX2_undo 10 = .ok (.aload_n 0, 1) := by decide +kernel
theorem dX2_undo_11 : decode cX2_undo 11 = .ok (.invokevirtual 53, 3) := by decide +kernel
theorem dX2_undo_14 : decode cX2_undo 14 = .ok (.ireturn, 1) := by decide +kernel
theorem dX2_undo_15 : decode cX2_undo 15 = .ok (.aload_n 0, 1) := by decide +kernel
theorem dX2_undo_16 : decode cX2_undo 16 = .ok (.getfield 19, 3) := by decide +kernel
theorem dX2_undo_19 : decode cX2_undo 19 = .ok (.aload_n 0, 1) := by decide +kernel
theorem dX2_undo_20 : decode cX2_undo 20 = .ok (.getfield 12, 3) := by decide +kernel
theorem dX2_undo_23 : decode cX2_undo 23 = .ok (.invokevirtual 158, 3) := by decide +kernel
theorem dX2_undo_26 : decode cX2_undo 26 = .ok (.aload_n 0, 1) := by decide +kernel
theorem dX2_undo_27 : decode cX2_undo 27 = .ok (.getfield 19, 3) := by decide +kernel
theorem dX2_undo_30 : decode cX2_undo 30 = .ok (.getfield 155, 3) := by decide +kernel
theorem dX2_undo_33 : decode cX2_undo 33 = .ok (.ireturn, 1) := by decide +kernel
theorem dX2_errorCount_0 : decode cX2_errorCount 0 = .ok (.iload_n 1, 1) := by decide +kernel
theorem dX2_errorCount_1 : decode cX2_errorCount 1 = .ok (.tableswitch 42 0 2 #[27, 32, 37], 27) := by decide +kernel
theorem dX2_errorCount_28 : decode cX2_errorCount 28 = .ok (.aload_n 0, 1) := by decide +kernel
theorem dX2_errorCount_29 : decode cX2_errorCount 29 = .ok (.getfield 161, 3) := by decide +kernel
theorem dX2_errorCount_32 : decode cX2_errorCount 32 = .ok (.ireturn, 1) := by decide +kernel
theorem dX2_errorCount_33 : decode cX2_errorCount 33 = .ok (.aload_n 0, 1) := by decide +kernel
theorem dX2_errorCount_34 : decode cX2_errorCount 34 = .ok (.getfield 164, 3) := by decide +kernel
theorem dX2_errorCount_37 : decode cX2_errorCount 37 = .ok (.ireturn, 1) := by decide +kernel
theorem dX2_errorCount_38 : decode cX2_errorCount 38 = .ok (.aload_n 0, 1) := by decide +kernel
theorem dX2_errorCount_39 : decode cX2_errorCount 39 = .ok (.getfield 167, 3) := by decide +kernel
theorem dX2_errorCount_42 : decode cX2_errorCount 42 = .ok (.ireturn, 1) := by decide +kernel
theorem dX2_errorCount_43 : decode cX2_errorCount 43 = .ok (.aload_n 0, 1) := by decide +kernel
theorem dX2_errorCount_44 : decode cX2_errorCount 44 = .ok (.invokevirtual 27, 3) := by decide +kernel
theorem dX2_errorCount_47 : decode cX2_errorCount 47 = .ok (.ireturn, 1) := by decide +kernel
theorem dX2_digest_0 : decode cX2_digest 0 = .ok (.ldc2_w 170, 3) := by decide +kernel
theorem dX2_digest_3 : decode cX2_digest 3 = .ok (.lstore_n 1, 1) := by decide +kernel
theorem dX2_digest_4 : decode cX2_digest 4 = .ok (.lload_n 1, 1) := by decide +kernel
theorem dX2_digest_5 : decode cX2_digest 5 = .ok (.aload_n 0, 1) := by decide +kernel
theorem dX2_digest_6 : decode cX2_digest 6 = .ok (.getfield 161, 3) := by decide +kernel
theorem dX2_digest_9 : decode cX2_digest 9 = .ok (.invokestatic 172, 3) := by decide +kernel
theorem dX2_digest_12 : decode cX2_digest 12 = .ok (.lstore_n 1, 1) := by decide +kernel
theorem dX2_digest_13 : decode cX2_digest 13 = .ok (.lload_n 1, 1) := by decide +kernel
theorem dX2_digest_14 : decode cX2_digest 14 = .ok (.aload_n 0, 1) := by decide +kernel
theorem dX2_digest_15 : decode cX2_digest 15 = .ok (.getfield 164, 3) := by decide +kernel
theorem dX2_digest_18 : decode cX2_digest 18 = .ok (.invokestatic 172, 3) := by decide +kernel
theorem dX2_digest_21 : decode cX2_digest 21 = .ok (.lstore_n 1, 1) := by decide +kernel
theorem dX2_digest_22 : decode cX2_digest 22 = .ok (.lload_n 1, 1) := by decide +kernel
theorem dX2_digest_23 : decode cX2_digest 23 = .ok (.aload_n 0, 1) := by decide +kernel
theorem dX2_digest_24 : decode cX2_digest 24 = .ok (.getfield 167, 3) := by decide +kernel
theorem dX2_digest_27 : decode cX2_digest 27 = .ok (.invokestatic 172, 3) := by decide +kernel
theorem dX2_digest_30 : decode cX2_digest 30 = .ok (.lstore_n 1, 1) := by decide +kernel
theorem dX2_digest_31 : decode cX2_digest 31 = .ok (.lload_n 1, 1) := by decide +kernel
theorem dX2_digest_32 : decode cX2_digest 32 = .ok (.aload_n 0, 1) := by decide +kernel
theorem dX2_digest_33 : decode cX2_digest 33 = .ok (.getfield 19, 3) := by decide +kernel
theorem dX2_digest_36 : decode cX2_digest 36 = .ok (.getfield 155, 3) := by decide +kernel
theorem dX2_digest_39 : decode cX2_digest 39 = .ok (.invokestatic 172, 3) := by decide +kernel
theorem dX2_digest_42 : decode cX2_digest 42 = .ok (.lstore_n 1, 1) := by decide +kernel
theorem dX2_digest_43 : decode cX2_digest 43 = .ok (.aload_n 0, 1) := by decide +kernel
theorem dX2_digest_44 : decode cX2_digest 44 = .ok (.getfield 12, 3) := by decide +kernel
theorem dX2_digest_47 : decode cX2_digest 47 = .ok (.lload_n 1, 1) := by decide +kernel
theorem dX2_digest_48 : decode cX2_digest 48 = .ok (.invokevirtual 176, 3) := by decide +kernel
theorem dX2_digest_51 : decode cX2_digest 51 = .ok (.lstore_n 1, 1) := by decide +kernel
theorem dX2_digest_52 : decode cX2_digest 52 = .ok (.aload_n 0, 1) := by decide +kernel
theorem dX2_digest_53 : decode cX2_digest 53 = .ok (.getfield 12, 3) := by decide +kernel
theorem dX2_digest_56 : decode cX2_digest 56 = .ok (.lload_n 1, 1) := by decide +kernel
theorem dX2_digest_57 : decode cX2_digest 57 = .ok (.invokevirtual 180, 3) := by decide +kernel
theorem dX2_digest_60 : decode cX2_digest 60 = .ok (.lstore_n 1, 1) := by decide +kernel
theorem dX2_digest_61 : decode cX2_digest 61 = .ok (.iconst 0, 1) := by decide +kernel
theorem dX2_digest_62 : decode cX2_digest 62 = .ok (.istore_n 3, 1) := by decide +kernel
theorem dX2_digest_63 : decode cX2_digest 63 = .ok (.iload_n 3, 1) := by decide +kernel
theorem dX2_digest_64 : decode cX2_digest 64 = .ok (.bipush 6, 2) := by decide +kernel
theorem dX2_digest_66 : decode cX2_digest 66 = .ok (.if_icmp .ge 19, 3) := by decide +kernel
theorem dX2_digest_69 : decode cX2_digest 69 = .ok (.aload_n 0, 1) := by decide +kernel
theorem dX2_digest_70 : decode cX2_digest 70 = .ok (.getfield 12, 3) := by decide +kernel
theorem dX2_digest_73 : decode cX2_digest 73 = .ok (.lload_n 1, 1) := by decide +kernel
theorem dX2_digest_74 : decode cX2_digest 74 = .ok (.iload_n 3, 1) := by decide +kernel
theorem dX2_digest_75 : decode cX2_digest 75 = .ok (.invokevirtual 183, 3) := by decide +kernel
theorem dX2_digest_78 : decode cX2_digest 78 = .ok (.lstore_n 1, 1) := by decide +kernel
theorem dX2_digest_79 : decode cX2_digest 79 = .ok (.iinc 3 1, 3) := by decide +kernel
theorem dX2_digest_82 : decode cX2_digest 82 = .ok (.goto (-19), 3) := by decide +kernel
theorem dX2_digest_85 : decode cX2_digest 85 = .ok (.aload_n 0, 1) := by decide +kernel
theorem dX2_digest_86 : decode cX2_digest 86 = .ok (.getfield 12, 3) := by decide +kernel
theorem dX2_digest_89 : decode cX2_digest 89 = .ok (.lload_n 1, 1) := by decide +kernel
theorem dX2_digest_90 : decode cX2_digest 90 = .ok (.invokevirtual 186, 3) := by decide +kernel
theorem dX2_digest_93 : decode cX2_digest 93 = .ok (.lreturn, 1) := by decide +kernel
theorem dX2_invalid_0 : decode cX2_invalid 0 = .ok (.aload_n 0, 1) := by decide +kernel
theorem dX2_invalid_1 : decode cX2_invalid 1 = .ok (.dup, 1) := by decide +kernel
theorem dX2_invalid_2 : decode cX2_invalid 2 = .ok (.getfield 161, 3) := by decide +kernel
theorem dX2_invalid_5 : decode cX2_invalid 5 = .ok (.iconst 1, 1) := by decide +kernel
theorem dX2_invalid_6 : decode cX2_invalid 6 = .ok (.iadd, 1) := by decide +kernel
theorem dX2_invalid_7 : decode cX2_invalid 7 = .ok (.putfield 161, 3) := by decide +kernel
theorem dX2_invalid_10 : decode cX2_invalid 10 = .ok (.bipush (-2), 2) := by decide +kernel
theorem dX2_invalid_12 : decode cX2_invalid 12 = .ok (.ireturn, 1) := by decide +kernel
theorem dX2_rejected_0 : decode cX2_rejected 0 = .ok (.aload_n 0, 1) := by decide +kernel
theorem dX2_rejected_1 : decode cX2_rejected 1 = .ok (.dup, 1) := by decide +kernel
theorem dX2_rejected_2 : decode cX2_rejected 2 = .ok (.getfield 164, 3) := by decide +kernel
theorem dX2_rejected_5 : decode cX2_rejected 5 = .ok (.iconst 1, 1) := by decide +kernel
theorem dX2_rejected_6 : decode cX2_rejected 6 = .ok (.iadd, 1) := by decide +kernel
theorem dX2_rejected_7 : decode cX2_rejected 7 = .ok (.putfield 164, 3) := by decide +kernel
theorem dX2_rejected_10 : decode cX2_rejected 10 = .ok (.bipush (-3), 2) := by decide +kernel
theorem dX2_rejected_12 : decode cX2_rejected 12 = .ok (.ireturn, 1) := by decide +kernel
theorem dX2_full_0 : decode cX2_full 0 = .ok (.aload_n 0, 1) := by decide +kernel
theorem dX2_full_1 : decode cX2_full 1 = .ok (.dup, 1) := by decide +kernel
theorem dX2_full_2 : decode cX2_full 2 = .ok (.getfield 167, 3) := by decide +kernel
theorem dX2_full_5 : decode cX2_full 5 = .ok (.iconst 1, 1) := by decide +kernel
theorem dX2_full_6 : decode cX2_full 6 = .ok (.iadd, 1) := by decide +kernel
theorem dX2_full_7 : decode cX2_full 7 = .ok (.putfield 167, 3) := by decide +kernel
theorem dX2_full_10 : decode cX2_full 10 = .ok (.bipush (-4), 2) := by decide +kernel
theorem dX2_full_12 : decode cX2_full 12 = .ok (.ireturn, 1) := by decide +kernel
theorem dX2_isDestination_0 : decode cX2_isDestination 0 = .ok (.iload_n 0, 1) := by decide +kernel
theorem dX2_isDestination_1 : decode cX2_isDestination 1 = .ok (.ifCond .lt 13, 3) := by decide +kernel
theorem dX2_isDestination_4 : decode cX2_isDestination 4 = .ok (.iload_n 0, 1) := by decide +kernel
theorem dX2_isDestination_5 : decode cX2_isDestination 5 = .ok (.bipush 6, 2) := by decide +kernel
theorem dX2_isDestination_7 : decode cX2_isDestination 7 = .ok (.if_icmp .ge 7, 3) := by decide +kernel
theorem dX2_isDestination_10 : decode cX2_isDestination 10 = .ok (.iconst 1, 1) := by decide +kernel
theorem dX2_isDestination_11 : decode cX2_isDestination 11 = .ok (.goto 4, 3) := by decide +kernel
theorem dX2_isDestination_14 : decode cX2_isDestination 14 = .ok (.iconst 0, 1) := by decide +kernel
theorem dX2_isDestination_15 : decode cX2_isDestination 15 = .ok (.ireturn, 1) := by decide +kernel
theorem dX2_isStream_0 : decode cX2_isStream 0 = .ok (.iload_n 0, 1) := by decide +kernel
theorem dX2_isStream_1 : decode cX2_isStream 1 = .ok (.invokestatic 102, 3) := by decide +kernel
theorem dX2_isStream_4 : decode cX2_isStream 4 = .ok (.ifCond .eq 17, 3) := by decide +kernel
theorem dX2_isStream_7 : decode cX2_isStream 7 = .ok (.iload_n 1, 1) := by decide +kernel
theorem dX2_isStream_8 : decode cX2_isStream 8 = .ok (.ifCond .lt 13, 3) := by decide +kernel
theorem dX2_isStream_11 : decode cX2_isStream 11 = .ok (.iload_n 1, 1) := by decide +kernel
theorem dX2_isStream_12 : decode cX2_isStream 12 = .ok (.bipush 16, 2) := by decide +kernel
theorem dX2_isStream_14 : decode cX2_isStream 14 = .ok (.if_icmp .ge 7, 3) := by decide +kernel
theorem dX2_isStream_17 : decode cX2_isStream 17 = .ok (.iconst 1, 1) := by decide +kernel
theorem dX2_isStream_18 : decode cX2_isStream 18 = .ok (.goto 4, 3) := by decide +kernel
theorem dX2_isStream_21 : decode cX2_isStream 21 = .ok (.iconst 0, 1) := by decide +kernel
theorem dX2_isStream_22 : decode cX2_isStream 22 = .ok (.ireturn, 1) := by decide +kernel
theorem dX2_linkPlace_0 : decode cX2_linkPlace 0 = .ok (.iload_n 0, 1) := by decide +kernel
theorem dX2_linkPlace_1 : decode cX2_linkPlace 1 = .ok (.iconst 4, 1) := by decide +kernel
theorem dX2_linkPlace_2 : decode cX2_linkPlace 2 = .ok (.imul, 1) := by decide +kernel
theorem dX2_linkPlace_3 : decode cX2_linkPlace 3 = .ok (.iload_n 1, 1) := by decide +kernel
theorem dX2_linkPlace_4 : decode cX2_linkPlace 4 = .ok (.iadd, 1) := by decide +kernel
theorem dX2_linkPlace_5 : decode cX2_linkPlace 5 = .ok (.ireturn, 1) := by decide +kernel
theorem dX2_routePlace_0 : decode cX2_routePlace 0 = .ok (.iload_n 0, 1) := by decide +kernel
theorem dX2_routePlace_1 : decode cX2_routePlace 1 = .ok (.iconst 4, 1) := by decide +kernel
theorem dX2_routePlace_2 : decode cX2_routePlace 2 = .ok (.imul, 1) := by decide +kernel
theorem dX2_routePlace_3 : decode cX2_routePlace 3 = .ok (.iload_n 1, 1) := by decide +kernel
theorem dX2_routePlace_4 : decode cX2_routePlace 4 = .ok (.iadd, 1) := by decide +kernel
theorem dX2_routePlace_5 : decode cX2_routePlace 5 = .ok (.ireturn, 1) := by decide +kernel
theorem dX2_streamPlace_0 : decode cX2_streamPlace 0 = .ok (.iload_n 0, 1) := by decide +kernel
theorem dX2_streamPlace_1 : decode cX2_streamPlace 1 = .ok (.bipush 16, 2) := by decide +kernel
theorem dX2_streamPlace_3 : decode cX2_streamPlace 3 = .ok (.imul, 1) := by decide +kernel
theorem dX2_streamPlace_4 : decode cX2_streamPlace 4 = .ok (.iload_n 1, 1) := by decide +kernel
theorem dX2_streamPlace_5 : decode cX2_streamPlace 5 = .ok (.iadd, 1) := by decide +kernel
theorem dX2_streamPlace_6 : decode cX2_streamPlace 6 = .ok (.ireturn, 1) := by decide +kernel
theorem dX2_messageOf_0 : decode cX2_messageOf 0 = .ok (.iload_n 0, 1) := by decide +kernel
theorem dX2_messageOf_1 : decode cX2_messageOf 1 = .ok (.bipush 96, 2) := by decide +kernel
theorem dX2_messageOf_3 : decode cX2_messageOf 3 = .ok (.imul, 1) := by decide +kernel
theorem dX2_messageOf_4 : decode cX2_messageOf 4 = .ok (.iload_n 1, 1) := by decide +kernel
theorem dX2_messageOf_5 : decode cX2_messageOf 5 = .ok (.iadd, 1) := by decide +kernel
theorem dX2_messageOf_6 : decode cX2_messageOf 6 = .ok (.ireturn, 1) := by decide +kernel
theorem dX2_numberOf_0 : decode cX2_numberOf 0 = .ok (.iload_n 0, 1) := by decide +kernel
theorem dX2_numberOf_1 : decode cX2_numberOf 1 = .ok (.bipush 96, 2) := by decide +kernel
theorem dX2_numberOf_3 : decode cX2_numberOf 3 = .ok (.invokestatic 189, 3) := by decide +kernel
theorem dX2_numberOf_6 : decode cX2_numberOf 6 = .ok (.ireturn, 1) := by decide +kernel
theorem dX2_streamOf_0 : decode cX2_streamOf 0 = .ok (.iload_n 0, 1) := by decide +kernel
theorem dX2_streamOf_1 : decode cX2_streamOf 1 = .ok (.bipush 96, 2) := by decide +kernel
theorem dX2_streamOf_3 : decode cX2_streamOf 3 = .ok (.invokestatic 194, 3) := by decide +kernel
theorem dX2_streamOf_6 : decode cX2_streamOf 6 = .ok (.ireturn, 1) := by decide +kernel
theorem dX2_setBit_0 : decode cX2_setBit 0 = .ok (.iload_n 1, 1) := by decide +kernel
theorem dX2_setBit_1 : decode cX2_setBit 1 = .ok (.istore_n 2, 1) := by decide +kernel
theorem dX2_setBit_2 : decode cX2_setBit 2 = .ok (.iconst 0, 1) := by decide +kernel
theorem dX2_setBit_3 : decode cX2_setBit 3 = .ok (.istore_n 3, 1) := by decide +kernel
theorem dX2_setBit_4 : decode cX2_setBit 4 = .ok (.iload_n 3, 1) := by decide +kernel
theorem dX2_setBit_5 : decode cX2_setBit 5 = .ok (.iconst 3, 1) := by decide +kernel
theorem dX2_setBit_6 : decode cX2_setBit 6 = .ok (.if_icmp .ge 27, 3) := by decide +kernel
theorem dX2_setBit_9 : decode cX2_setBit 9 = .ok (.iload_n 0, 1) := by decide +kernel
theorem dX2_setBit_10 : decode cX2_setBit 10 = .ok (.iload_n 3, 1) := by decide +kernel
theorem dX2_setBit_11 : decode cX2_setBit 11 = .ok (.ishr, 1) := by decide +kernel
theorem dX2_setBit_12 : decode cX2_setBit 12 = .ok (.iconst 1, 1) := by decide +kernel
theorem dX2_setBit_13 : decode cX2_setBit 13 = .ok (.iand, 1) := by decide +kernel
theorem dX2_setBit_14 : decode cX2_setBit 14 = .ok (.iconst 1, 1) := by decide +kernel
theorem dX2_setBit_15 : decode cX2_setBit 15 = .ok (.if_icmp .ne 12, 3) := by decide +kernel
theorem dX2_setBit_18 : decode cX2_setBit 18 = .ok (.iload_n 2, 1) := by decide +kernel
theorem dX2_setBit_19 : decode cX2_setBit 19 = .ok (.ifCond .ne 5, 3) := by decide +kernel
theorem dX2_setBit_22 : decode cX2_setBit 22 = .ok (.iload_n 3, 1) := by decide +kernel
theorem dX2_setBit_23 : decode cX2_setBit 23 = .ok (.ireturn, 1) := by decide +kernel
theorem dX2_setBit_24 : decode cX2_setBit 24 = .ok (.iinc 2 (-1), 3) := by decide +kernel
theorem dX2_setBit_27 : decode cX2_setBit 27 = .ok (.iinc 3 1, 3) := by decide +kernel
theorem dX2_setBit_30 : decode cX2_setBit 30 = .ok (.goto (-26), 3) := by decide +kernel
theorem dX2_setBit_33 : decode cX2_setBit 33 = .ok (.iconst 3, 1) := by decide +kernel
theorem dX2_setBit_34 : decode cX2_setBit 34 = .ok (.ireturn, 1) := by decide +kernel
theorem dX2_mix_0 : decode cX2_mix 0 = .ok (.ldc2_w 197, 3) := by decide +kernel
theorem dX2_mix_3 : decode cX2_mix 3 = .ok (.lload_n 0, 1) := by decide +kernel
theorem dX2_mix_4 : decode cX2_mix 4 = .ok (.lmul, 1) := by decide +kernel
theorem dX2_mix_5 : decode cX2_mix 5 = .ok (.iload_n 2, 1) := by decide +kernel
theorem dX2_mix_6 : decode cX2_mix 6 = .ok (.i2l, 1) := by decide +kernel
theorem dX2_mix_7 : decode cX2_mix 7 = .ok (.ladd, 1) := by decide +kernel
theorem dX2_mix_8 : decode cX2_mix 8 = .ok (.lreturn, 1) := by decide +kernel
theorem dX3_init_0 : decode cX3_init 0 = .ok (.aload_n 0, 1) := by decide +kernel
theorem dX3_init_1 : decode cX3_init 1 = .ok (.invokespecial 1, 3) := by decide +kernel
theorem dX3_init_4 : decode cX3_init 4 = .ok (.aload_n 0, 1) := by decide +kernel
theorem dX3_init_5 : decode cX3_init 5 = .ok (.sipush 470, 3) := by decide +kernel
theorem dX3_init_8 : decode cX3_init 8 = .ok (.newarray .int, 2) := by decide +kernel
theorem dX3_init_10 : decode cX3_init 10 = .ok (.putfield 7, 3) := by decide +kernel
theorem dX3_init_13 : decode cX3_init 13 = .ok (.aload_n 0, 1) := by decide +kernel
theorem dX3_init_14 : decode cX3_init 14 = .ok (.sipush 1880, 3) := by decide +kernel
theorem dX3_init_17 : decode cX3_init 17 = .ok (.newarray .int, 2) := by decide +kernel
theorem dX3_init_19 : decode cX3_init 19 = .ok (.putfield 13, 3) := by decide +kernel
theorem dX3_init_22 : decode cX3_init 22 = .ok (.aload_n 0, 1) := by decide +kernel
theorem dX3_init_23 : decode cX3_init 23 = .ok (.iconst 3, 1) := by decide +kernel
theorem dX3_init_24 : decode cX3_init 24 = .ok (.newarray .int, 2) := by decide +kernel
theorem dX3_init_26 : decode cX3_init 26 = .ok (.putfield 16, 3) := by decide +kernel
theorem dX3_init_29 : decode cX3_init 29 = .ok (.aload_n 0, 1) := by decide +kernel
theorem dX3_init_30 : decode cX3_init 30 = .ok (.bipush 96, 2) := by decide +kernel
theorem dX3_init_32 : decode cX3_init 32 = .ok (.newarray .int, 2) := by decide +kernel
theorem dX3_init_34 : decode cX3_init 34 = .ok (.putfield 19, 3) := by decide +kernel
theorem dX3_init_37 : decode cX3_init 37 = .ok (.aload_n 0, 1) := by decide +kernel
theorem dX3_init_38 : decode cX3_init 38 = .ok (.bipush 24, 2) := by decide +kernel
theorem dX3_init_40 : decode cX3_init 40 = .ok (.newarray .int, 2) := by decide +kernel
theorem dX3_init_42 : decode cX3_init 42 = .ok (.putfield 22, 3) := by decide +kernel
theorem dX3_init_45 : decode cX3_init 45 = .ok (.aload_n 0, 1) := by decide +kernel
theorem dX3_init_46 : decode cX3_init 46 = .ok (.getfield 7, 3) := by decide +kernel
theorem dX3_init_49 : decode cX3_init 49 = .ok (.sipush 463, 3) := by decide +kernel
theorem dX3_init_52 : decode cX3_init 52 = .ok (.iconst 3, 1) := by decide +kernel
theorem dX3_init_53 : decode cX3_init 53 = .ok (.iastore, 1) := by decide +kernel
theorem dX3_init_54 : decode cX3_init 54 = .ok (.iconst 0, 1) := by decide +kernel
theorem dX3_init_55 : decode cX3_init 55 = .ok (.istore_n 1, 1) := by decide +kernel
theorem dX3_init_56 : decode cX3_init 56 = .ok (.iload_n 1, 1) := by decide +kernel
theorem dX3_init_57 : decode cX3_init 57 = .ok (.bipush 24, 2) := by decide +kernel
theorem dX3_init_59 : decode cX3_init 59 = .ok (.if_icmp .ge 31, 3) := by decide +kernel
theorem dX3_init_62 : decode cX3_init 62 = .ok (.aload_n 0, 1) := by decide +kernel
theorem dX3_init_63 : decode cX3_init 63 = .ok (.getfield 7, 3) := by decide +kernel
theorem dX3_init_66 : decode cX3_init 66 = .ok (.sipush 197, 3) := by decide +kernel
theorem dX3_init_69 : decode cX3_init 69 = .ok (.iload_n 1, 1) := by decide +kernel
theorem dX3_init_70 : decode cX3_init 70 = .ok (.iadd, 1) := by decide +kernel
theorem dX3_init_71 : decode cX3_init 71 = .ok (.iconst (-1), 1) := by decide +kernel
theorem dX3_init_72 : decode cX3_init 72 = .ok (.iastore, 1) := by decide +kernel
theorem dX3_init_73 : decode cX3_init 73 = .ok (.aload_n 0, 1) := by decide +kernel
theorem dX3_init_74 : decode cX3_init 74 = .ok (.getfield 7, 3) := by decide +kernel
theorem dX3_init_77 : decode cX3_init 77 = .ok (.sipush 221, 3) := by decide +kernel
theorem dX3_init_80 : decode cX3_init 80 = .ok (.iload_n 1, 1) := by decide +kernel
theorem dX3_init_81 : decode cX3_init 81 = .ok (.iadd, 1) := by decide +kernel
theorem dX3_init_82 : decode cX3_init 82 = .ok (.iconst (-1), 1) := by decide +kernel
theorem dX3_init_83 : decode cX3_init 83 = .ok (.iastore, 1) := by decide +kernel
theorem dX3_init_84 : decode cX3_init 84 = .ok (.iinc 1 1, 3) := by decide +kernel
theorem dX3_init_87 : decode cX3_init 87 = .ok (.goto (-31), 3) := by decide +kernel
theorem dX3_init_90 : decode cX3_init 90 = .ok (.iconst 0, 1) := by decide +kernel
theorem dX3_init_91 : decode cX3_init 91 = .ok (.istore_n 1, 1) := by decide +kernel
theorem dX3_init_92 : decode cX3_init 92 = .ok (.iload_n 1, 1) := by decide +kernel
theorem dX3_init_93 : decode cX3_init 93 = .ok (.bipush 96, 2) := by decide +kernel
theorem dX3_init_95 : decode cX3_init 95 = .ok (.if_icmp .ge 20, 3) := by decide +kernel
theorem dX3_init_98 : decode cX3_init 98 = .ok (.aload_n 0, 1) := by decide +kernel
theorem dX3_init_99 : decode cX3_init 99 = .ok (.getfield 7, 3) := by decide +kernel
theorem dX3_init_102 : decode cX3_init 102 = .ok (.sipush 366, 3) := by decide +kernel
theorem dX3_init_105 : decode cX3_init 105 = .ok (.iload_n 1, 1) := by decide +kernel
theorem dX3_init_106 : decode cX3_init 106 = .ok (.iadd, 1) := by decide +kernel
theorem dX3_init_107 : decode cX3_init 107 = .ok (.iconst (-1), 1) := by decide +kernel
theorem dX3_init_108 : decode cX3_init 108 = .ok (.iastore, 1) := by decide +kernel
theorem dX3_init_109 : decode cX3_init 109 = .ok (.iinc 1 1, 3) := by decide +kernel
theorem dX3_init_112 : decode cX3_init 112 = .ok (.goto (-20), 3) := by decide +kernel
theorem dX3_init_115 : decode cX3_init 115 = .ok (.return_, 1) := by decide +kernel
theorem dX3_within_0 : decode cX3_within 0 = .ok (.iload_n 0, 1) := by decide +kernel
theorem dX3_within_1 : decode cX3_within 1 = .ok (.iload_n 1, 1) := by decide +kernel
theorem dX3_within_2 : decode cX3_within 2 = .ok (.if_icmp .lt 12, 3) := by decide +kernel
theorem dX3_within_5 : decode cX3_within 5 = .ok (.iload_n 0, 1) := by decide +kernel
theorem dX3_within_6 : decode cX3_within 6 = .ok (.iload_n 2, 1) := by decide +kernel
theorem dX3_within_7 : decode cX3_within 7 = .ok (.if_icmp .gt 7, 3) := by decide +kernel
theorem dX3_within_10 : decode cX3_within 10 = .ok (.iconst 1, 1) := by decide +kernel
theorem dX3_within_11 : decode cX3_within 11 = .ok (.goto 4, 3) := by decide +kernel
theorem dX3_within_14 : decode cX3_within 14 = .ok (.iconst 0, 1) := by decide +kernel
theorem dX3_within_15 : decode cX3_within 15 = .ok (.ireturn, 1) := by decide +kernel
theorem dX3_fails_0 : decode cX3_fails 0 = .ok (.aload_n 0, 1) := by decide +kernel
theorem dX3_fails_1 : decode cX3_fails 1 = .ok (.getfield 16, 3) := by decide +kernel
theorem dX3_fails_4 : decode cX3_fails 4 = .ok (.bipush (-2), 2) := by decide +kernel
theorem dX3_fails_6 : decode cX3_fails 6 = .ok (.iload_n 1, 1) := by decide +kernel
theorem dX3_fails_7 : decode cX3_fails 7 = .ok (.isub, 1) := by decide +kernel
theorem dX3_fails_8 : decode cX3_fails 8 = .ok (.dup2, 1) := by decide +kernel
theorem dX3_fails_9 : decode cX3_fails 9 = .ok (.iaload, 1) := by decide +kernel
theorem dX3_fails_10 : decode cX3_fails 10 = .ok (.iconst 1, 1) := by decide +kernel
theorem dX3_fails_11 : decode cX3_fails 11 = .ok (.iadd, 1) := by decide +kernel
theorem dX3_fails_12 : decode cX3_fails 12 = .ok (.iastore, 1) := by decide +kernel
theorem dX3_fails_13 : decode cX3_fails 13 = .ok (.iload_n 1, 1) := by decide +kernel
theorem dX3_fails_14 : decode cX3_fails 14 = .ok (.ireturn, 1) := by decide +kernel
theorem dX3_saves_0 : decode cX3_saves 0 = .ok (.aload_n 0, 1) := by decide +kernel
theorem dX3_saves_1 : decode cX3_saves 1 = .ok (.getfield 25, 3) := by decide +kernel
theorem dX3_saves_4 : decode cX3_saves 4 = .ok (.iconst 4, 1) := by decide +kernel
theorem dX3_saves_5 : decode cX3_saves 5 = .ok (.if_icmp .ne 44, 3) := by decide +kernel
theorem dX3_saves_8 : decode cX3_saves 8 = .ok (.iconst 0, 1) := by decide +kernel
theorem dX3_saves_9 : decode cX3_saves 9 = .ok (.istore_n 1, 1) := by decide +kernel
theorem dX3_saves_10 : decode cX3_saves 10 = .ok (.iload_n 1, 1) := by decide +kernel
theorem dX3_saves_11 : decode cX3_saves 11 = .ok (.sipush 1410, 3) := by decide +kernel
theorem dX3_saves_14 : decode cX3_saves 14 = .ok (.if_icmp .ge 25, 3) := by decide +kernel
theorem dX3_saves_17 : decode cX3_saves 17 = .ok (.aload_n 0, 1) := by decide +kernel
theorem dX3_saves_18 : decode cX3_saves 18 = .ok (.getfield 13, 3) := by decide +kernel
theorem dX3_saves_21 : decode cX3_saves 21 = .ok (.iload_n 1, 1) := by decide +kernel
theorem dX3_saves_22 : decode cX3_saves 22 = .ok (.aload_n 0, 1) := by decide +kernel
theorem dX3_saves_23 : decode cX3_saves 23 = .ok (.getfield 13, 3) := by decide +kernel
theorem dX3_saves_26 : decode cX3_saves 26 = .ok (.iload_n 1, 1) := by decide +kernel
theorem dX3_saves_27 : decode cX3_saves 27 = .ok (.sipush 470, 3) := by decide +kernel
theorem dX3_saves_30 : decode cX3_saves 30 = .ok (.iadd, 1) := by decide +kernel
theorem dX3_saves_31 : decode cX3_saves 31 = .ok (.iaload, 1) := by decide +kernel
theorem dX3_saves_32 : decode cX3_saves 32 = .ok (.iastore, 1) := by decide +kernel
theorem dX3_saves_33 : decode cX3_saves 33 = .ok (.iinc 1 1, 3) := by decide +kernel
theorem dX3_saves_36 : decode cX3_saves 36 = .ok (.goto (-26), 3) := by decide +kernel
theorem dX3_saves_39 : decode cX3_saves 39 = .ok (.aload_n 0, 1) := by decide +kernel
theorem dX3_saves_40 : decode cX3_saves 40 = .ok (.dup, 1) := by decide +kernel
theorem dX3_saves_41 : decode cX3_saves 41 = .ok (.getfield 25, 3) := by decide +kernel
theorem dX3_saves_44 : decode cX3_saves 44 = .ok (.iconst 1, 1) := by decide +kernel
theorem dX3_saves_45 : decode cX3_saves 45 = .ok (.isub, 1) := by decide +kernel
theorem dX3_saves_46 : decode cX3_saves 46 = .ok (.putfield 25, 3) := by decide +kernel
theorem dX3_saves_49 : decode cX3_saves 49 = .ok (.iconst 0, 1) := by decide +kernel
theorem dX3_saves_50 : decode cX3_saves 50 = .ok (.istore_n 1, 1) := by decide +kernel
theorem dX3_saves_51 : decode cX3_saves 51 = .ok (.iload_n 1, 1) := by decide +kernel
theorem dX3_saves_52 : decode cX3_saves 52 = .ok (.sipush 470, 3) := by decide +kernel
theorem dX3_saves_55 : decode cX3_saves 55 = .ok (.if_icmp .ge 30, 3) := by decide +kernel
theorem dX3_saves_58 : decode cX3_saves 58 = .ok (.aload_n 0, 1) := by decide +kernel
theorem dX3_saves_59 : decode cX3_saves 59 = .ok (.getfield 13, 3) := by decide +kernel
theorem dX3_saves_62 : decode cX3_saves 62 = .ok (.sipush 470, 3) := by decide +kernel
theorem dX3_saves_65 : decode cX3_saves 65 = .ok (.aload_n 0, 1) := by decide +kernel
theorem dX3_saves_66 : decode cX3_saves 66 = .ok (.getfield 25, 3) := by decide +kernel
theorem dX3_saves_69 : decode cX3_saves 69 = .ok (.imul, 1) := by decide +kernel
theorem dX3_saves_70 : decode cX3_saves 70 = .ok (.iload_n 1, 1) := by decide +kernel
theorem dX3_saves_71 : decode cX3_saves 71 = .ok (.iadd, 1) := by decide +kernel
theorem dX3_saves_72 : decode cX3_saves 72 = .ok (.aload_n 0, 1) := by decide +kernel
theorem dX3_saves_73 : decode cX3_saves 73 = .ok (.getfield 7, 3) := by decide +kernel
theorem dX3_saves_76 : decode cX3_saves 76 = .ok (.iload_n 1, 1) := by decide +kernel
theorem dX3_saves_77 : decode cX3_saves 77 = .ok (.iaload, 1) := by decide +kernel
theorem dX3_saves_78 : decode cX3_saves 78 = .ok (.iastore, 1) := by decide +kernel
theorem dX3_saves_79 : decode cX3_saves 79 = .ok (.iinc 1 1, 3) := by decide +kernel
theorem dX3_saves_82 : decode cX3_saves 82 = .ok (.goto (-31), 3) := by decide +kernel
theorem dX3_saves_85 : decode cX3_saves 85 = .ok (.aload_n 0, 1) := by decide +kernel
theorem dX3_saves_86 : decode cX3_saves 86 = .ok (.dup, 1) := by decide +kernel
theorem dX3_saves_87 : decode cX3_saves 87 = .ok (.getfield 25, 3) := by decide +kernel
theorem dX3_saves_90 : decode cX3_saves 90 = .ok (.iconst 1, 1) := by decide +kernel
theorem dX3_saves_91 : decode cX3_saves 91 = .ok (.iadd, 1) := by decide +kernel
theorem dX3_saves_92 : decode cX3_saves 92 = .ok (.putfield 25, 3) := by decide +kernel
theorem dX3_saves_95 : decode cX3_saves 95 = .ok (.return_, 1) := by decide +kernel
theorem dX3_undo_0 : decode cX3_undo 0 = .ok (.aload_n 0, 1) := by decide +kernel
theorem dX3_undo_1 : decode cX3_undo 1 = .ok (.getfield 25, 3) := by decide +kernel
theorem dX3_undo_4 : decode cX3_undo 4 = .ok (.ifCond .ne 10, 3) := by decide +kernel
theorem dX3_undo_7 : decode cX3_undo 7 = .ok (.aload_n 0, 1) := by decide +kernel
theorem dX3_undo_8 : decode cX3_undo 8 = .ok (.bipush (-3), 2) := by decide +kernel
theorem dX3_undo_10 : decode cX3_undo 10 = .ok (.invokevirtual 29, 3) := by decide +kernel
theorem dX3_undo_13 : decode cX3_undo 13 = .ok (.ireturn, 1) := by decide +kernel
theorem dX3_undo_14 : decode cX3_undo 14 = .ok (.aload_n 0, 1) := by decide +kernel
theorem dX3_undo_15 : decode cX3_undo 15 = .ok (.dup, 1) := by decide +kernel
theorem dX3_undo_16 : decode cX3_undo 16 = .ok (.getfield 25, 3) := by decide +kernel
theorem dX3_undo_19 : decode cX3_undo 19 = .ok (.iconst 1, 1) := by decide +kernel
theorem dX3_undo_20 : decode cX3_undo 20 = .ok (.isub, 1) := by decide +kernel
theorem dX3_undo_21 : decode cX3_undo 21 = .ok (.putfield 25, 3) := by decide +kernel
theorem dX3_undo_24 : decode cX3_undo 24 = .ok (.iconst 0, 1) := by decide +kernel
theorem dX3_undo_25 : decode cX3_undo 25 = .ok (.istore_n 1, 1) := by decide +kernel
theorem dX3_undo_26 : decode cX3_undo 26 = .ok (.iload_n 1, 1) := by decide +kernel
theorem dX3_undo_27 : decode cX3_undo 27 = .ok (.sipush 470, 3) := by decide +kernel
theorem dX3_undo_30 : decode cX3_undo 30 = .ok (.if_icmp .ge 30, 3) := by decide +kernel
theorem dX3_undo_33 : decode cX3_undo 33 = .ok (.aload_n 0, 1) := by decide +kernel
theorem dX3_undo_34 : decode cX3_undo 34 = .ok (.getfield 7, 3) := by decide +kernel
theorem dX3_undo_37 : decode cX3_undo 37 = .ok (.iload_n 1, 1) := by decide +kernel
theorem dX3_undo_38 : decode cX3_undo 38 = .ok (.aload_n 0, 1) := by decide +kernel
theorem dX3_undo_39 : decode cX3_undo 39 = .ok (.getfield 13, 3) := by decide +kernel
theorem dX3_undo_42 : decode cX3_undo 42 = .ok (.sipush 470, 3) := by decide +kernel
theorem dX3_undo_45 : decode cX3_undo 45 = .ok (.aload_n 0, 1) := by decide +kernel
theorem dX3_undo_46 : decode cX3_undo 46 = .ok (.getfield 25, 3) := by decide +kernel
theorem dX3_undo_49 : decode cX3_undo 49 = .ok (.imul, 1) := by decide +kernel
theorem dX3_undo_50 : decode cX3_undo 50 = .ok (.iload_n 1, 1) := by decide +kernel
theorem dX3_undo_51 : decode cX3_undo 51 = .ok (.iadd, 1) := by decide +kernel
theorem dX3_undo_52 : decode cX3_undo 52 = .ok (.iaload, 1) := by decide +kernel
theorem dX3_undo_53 : decode cX3_undo 53 = .ok (.iastore, 1) := by decide +kernel
theorem dX3_undo_54 : decode cX3_undo 54 = .ok (.iinc 1 1, 3) := by decide +kernel
theorem dX3_undo_57 : decode cX3_undo 57 = .ok (.goto (-31), 3) := by decide +kernel
theorem dX3_undo_60 : decode cX3_undo 60 = .ok (.aload_n 0, 1) := by decide +kernel
theorem dX3_undo_61 : decode cX3_undo 61 = .ok (.getfield 25, 3) := by decide +kernel
theorem dX3_undo_64 : decode cX3_undo 64 = .ok (.ireturn, 1) := by decide +kernel
theorem dX3_isSet_0 : decode cX3_isSet 0 = .ok (.iload_n 1, 1) := by decide +kernel
theorem dX3_isSet_1 : decode cX3_isSet 1 = .ok (.iconst 0, 1) := by decide +kernel
theorem dX3_isSet_2 : decode cX3_isSet 2 = .ok (.aload_n 0, 1) := by decide +kernel
theorem dX3_isSet_3 : decode cX3_isSet 3 = .ok (.getfield 7, 3) := by decide +kernel
theorem dX3_isSet_6 : decode cX3_isSet 6 = .ok (.iconst 0, 1) := by decide +kernel
theorem dX3_isSet_7 : decode cX3_isSet 7 = .ok (.iaload, 1) := by decide +kernel
theorem dX3_isSet_8 : decode cX3_isSet 8 = .ok (.iconst 1, 1) := by decide +kernel
theorem dX3_isSet_9 : decode cX3_isSet 9 = .ok (.isub, 1) := by decide +kernel
theorem dX3_isSet_10 : decode cX3_isSet 10 = .ok (.invokestatic 33, 3) := by decide +kernel
theorem dX3_isSet_13 : decode cX3_isSet 13 = .ok (.ireturn, 1) := by decide +kernel
theorem dX3_isLink_0 : decode cX3_isLink 0 = .ok (.aload_n 0, 1) := by decide +kernel
theorem dX3_isLink_1 : decode cX3_isLink 1 = .ok (.iload_n 1, 1) := by decide +kernel
theorem dX3_isLink_2 : decode cX3_isLink 2 = .ok (.invokevirtual 37, 3) := by decide +kernel
theorem dX3_isLink_5 : decode cX3_isLink 5 = .ok (.ifCond .eq 25, 3) := by decide +kernel
theorem dX3_isLink_8 : decode cX3_isLink 8 = .ok (.iload_n 2, 1) := by decide +kernel
theorem dX3_isLink_9 : decode cX3_isLink 9 = .ok (.iconst 0, 1) := by decide +kernel
theorem dX3_isLink_10 : decode cX3_isLink 10 = .ok (.aload_n 0, 1) := by decide +kernel
theorem dX3_isLink_11 : decode cX3_isLink 11 = .ok (.getfield 7, 3) := by decide +kernel
theorem dX3_isLink_14 : decode cX3_isLink 14 = .ok (.iconst 1, 1) := by decide +kernel
theorem dX3_isLink_15 : decode cX3_isLink 15 = .ok (.iload_n 1, 1) := by decide +kernel
theorem dX3_isLink_16 : decode cX3_isLink 16 = .ok (.iadd, 1) := by decide +kernel
theorem dX3_isLink_17 : decode cX3_isLink 17 = .ok (.iaload, 1) := by decide +kernel
theorem dX3_isLink_18 : decode cX3_isLink 18 = .ok (.iconst 1, 1) := by decide +kernel
theorem dX3_isLink_19 : decode cX3_isLink 19 = .ok (.isub, 1) := by decide +kernel
theorem dX3_isLink_20 : decode cX3_isLink 20 = .ok (.invokestatic 33, 3) := by decide +kernel
theorem dX3_isLink_23 : decode cX3_isLink 23 = .ok (.ifCond .eq 7, 3) := by decide +kernel
theorem dX3_isLink_26 : decode cX3_isLink 26 = .ok (.iconst 1, 1) := by decide +kernel
theorem dX3_isLink_27 : decode cX3_isLink 27 = .ok (.goto 4, 3) := by decide +kernel
theorem dX3_isLink_30 : decode cX3_isLink 30 = .ok (.iconst 0, 1) := by decide +kernel
theorem dX3_isLink_31 : decode cX3_isLink 31 = .ok (.ireturn, 1) := by decide +kernel
theorem dX3_activeOf_0 : decode cX3_activeOf 0 = .ok (.iconst 0, 1) := by decide +kernel
theorem dX3_activeOf_1 : decode cX3_activeOf 1 = .ok (.istore_n 2, 1) := by decide +kernel
theorem dX3_activeOf_2 : decode cX3_activeOf 2 = .ok (.iconst 0, 1) := by decide +kernel
theorem dX3_activeOf_3 : decode cX3_activeOf 3 = .ok (.istore_n 3, 1) := by decide +kernel
theorem dX3_activeOf_4 : decode cX3_activeOf 4 = .ok (.iload_n 3, 1) := by decide +kernel
theorem dX3_activeOf_5 : decode cX3_activeOf 5 = .ok (.aload_n 0, 1) := by decide +kernel
theorem dX3_activeOf_6 : decode cX3_activeOf 6 = .ok (.getfield 7, 3) := by decide +kernel
theorem dX3_activeOf_9 : decode cX3_activeOf 9 = .ok (.iconst 1, 1) := by decide +kernel
theorem dX3_activeOf_10 : decode cX3_activeOf 10 = .ok (.iload_n 1, 1) := by decide +kernel
theorem dX3_activeOf_11 : decode cX3_activeOf 11 = .ok (.iadd, 1) := by decide +kernel
theorem dX3_activeOf_12 : decode cX3_activeOf 12 = .ok (.iaload, 1) := by decide +kernel
theorem dX3_activeOf_13 : decode cX3_activeOf 13 = .ok (.if_icmp .ge 24, 3) := by decide +kernel
theorem dX3_activeOf_16 : decode cX3_activeOf 16 = .ok (.iload_n 2, 1) := by decide +kernel
theorem dX3_activeOf_17 : decode cX3_activeOf 17 = .ok (.aload_n 0, 1) := by decide +kernel
theorem dX3_activeOf_18 : decode cX3_activeOf 18 = .ok (.getfield 7, 3) := by decide +kernel
theorem dX3_activeOf_21 : decode cX3_activeOf 21 = .ok (.iconst 5, 1) := by decide +kernel
theorem dX3_activeOf_22 : decode cX3_activeOf 22 = .ok (.iconst 4, 1) := by decide +kernel
theorem dX3_activeOf_23 : decode cX3_activeOf 23 = .ok (.iload_n 1, 1) := by decide +kernel
theorem dX3_activeOf_24 : decode cX3_activeOf 24 = .ok (.imul, 1) := by decide +kernel
theorem dX3_activeOf_25 : decode cX3_activeOf 25 = .ok (.iadd, 1) := by decide +kernel
theorem dX3_activeOf_26 : decode cX3_activeOf 26 = .ok (.iload_n 3, 1) := by decide +kernel
theorem dX3_activeOf_27 : decode cX3_activeOf 27 = .ok (.iadd, 1) := by decide +kernel
theorem dX3_activeOf_28 : decode cX3_activeOf 28 = .ok (.iaload, 1) := by decide +kernel
theorem dX3_activeOf_29 : decode cX3_activeOf 29 = .ok (.iadd, 1) := by decide +kernel
theorem dX3_activeOf_30 : decode cX3_activeOf 30 = .ok (.istore_n 2, 1) := by decide +kernel
theorem dX3_activeOf_31 : decode cX3_activeOf 31 = .ok (.iinc 3 1, 3) := by decide +kernel
theorem dX3_activeOf_34 : decode cX3_activeOf 34 = .ok (.goto (-30), 3) := by decide +kernel
theorem dX3_activeOf_37 : decode cX3_activeOf 37 = .ok (.iload_n 2, 1) := by decide +kernel
theorem dX3_activeOf_38 : decode cX3_activeOf 38 = .ok (.ireturn, 1) := by decide +kernel
theorem dX3_isUsable_0 : decode cX3_isUsable 0 = .ok (.aload_n 0, 1) := by decide +kernel
theorem dX3_isUsable_1 : decode cX3_isUsable 1 = .ok (.getfield 7, 3) := by decide +kernel
theorem dX3_isUsable_4 : decode cX3_isUsable 4 = .ok (.sipush 197, 3) := by decide +kernel
theorem dX3_isUsable_7 : decode cX3_isUsable 7 = .ok (.iconst 4, 1) := by decide +kernel
theorem dX3_isUsable_8 : decode cX3_isUsable 8 = .ok (.iload_n 1, 1) := by decide +kernel
theorem dX3_isUsable_9 : decode cX3_isUsable 9 = .ok (.imul, 1) := by decide +kernel
theorem dX3_isUsable_10 : decode cX3_isUsable 10 = .ok (.iadd, 1) := by decide +kernel
theorem dX3_isUsable_11 : decode cX3_isUsable 11 = .ok (.iload_n 2, 1) := by decide +kernel
theorem dX3_isUsable_12 : decode cX3_isUsable 12 = .ok (.iadd, 1) := by decide +kernel
theorem dX3_isUsable_13 : decode cX3_isUsable 13 = .ok (.iaload, 1) := by decide +kernel
theorem dX3_isUsable_14 : decode cX3_isUsable 14 = .ok (.istore_n 3, 1) := by decide +kernel
theorem dX3_isUsable_15 : decode cX3_isUsable 15 = .ok (.iload_n 3, 1) := by decide +kernel
theorem dX3_isUsable_16 : decode cX3_isUsable 16 = .ok (.ifCond .eq 8, 3) := by decide +kernel
theorem dX3_isUsable_19 : decode cX3_isUsable 19 = .ok (.iload_n 3, 1) := by decide +kernel
theorem dX3_isUsable_20 : decode cX3_isUsable 20 = .ok (.iconst 1, 1) := by decide +kernel
theorem dX3_isUsable_21 : decode cX3_isUsable 21 = .ok (.if_icmp .ne 15, 3) := by decide +kernel
theorem dX3_isUsable_24 : decode cX3_isUsable 24 = .ok (.aload_n 0, 1) := by decide +kernel
theorem dX3_isUsable_25 : decode cX3_isUsable 25 = .ok (.iload_n 2, 1) := by decide +kernel
theorem dX3_isUsable_26 : decode cX3_isUsable 26 = .ok (.invokevirtual 41, 3) := by decide +kernel
theorem dX3_isUsable_29 : decode cX3_isUsable 29 = .ok (.ifCond .le 7, 3) := by decide +kernel
theorem dX3_isUsable_32 : decode cX3_isUsable 32 = .ok (.iconst 1, 1) := by decide +kernel
theorem dX3_isUsable_33 : decode cX3_isUsable 33 = .ok (.goto 4, 3) := by decide +kernel
theorem dX3_isUsable_36 : decode cX3_isUsable 36 = .ok (.iconst 0, 1) := by decide +kernel
theorem dX3_isUsable_37 : decode cX3_isUsable 37 = .ok (.ireturn, 1) := by decide +kernel
theorem dX3_routesOf_0 : decode cX3_routesOf 0 = .ok (.bipush 99, 2) := by decide +kernel
theorem dX3_routesOf_2 : decode cX3_routesOf 2 = .ok (.istore_n 2, 1) := by decide +kernel
theorem dX3_routesOf_3 : decode cX3_routesOf 3 = .ok (.iconst 0, 1) := by decide +kernel
theorem dX3_routesOf_4 : decode cX3_routesOf 4 = .ok (.istore_n 3, 1) := by decide +kernel
theorem dX3_routesOf_5 : decode cX3_routesOf 5 = .ok (.iconst 0, 1) := by decide +kernel
theorem dX3_routesOf_6 : decode cX3_routesOf 6 = .ok (.istore 4, 2) := by decide +kernel
theorem dX3_routesOf_8 : decode cX3_routesOf 8 = .ok (.iload 4, 2) := by decide +kernel
theorem dX3_routesOf_10 : decode cX3_routesOf 10 = .ok (.aload_n 0, 1) := by decide +kernel
theorem dX3_routesOf_11 : decode cX3_routesOf 11 = .ok (.getfield 7, 3) := by decide +kernel
theorem dX3_routesOf_14 : decode cX3_routesOf 14 = .ok (.iconst 0, 1) := by decide +kernel
theorem dX3_routesOf_15 : decode cX3_routesOf 15 = .ok (.iaload, 1) := by decide +kernel
theorem dX3_routesOf_16 : decode cX3_routesOf 16 = .ok (.if_icmp .ge 97, 3) := by decide +kernel
theorem dX3_routesOf_19 : decode cX3_routesOf 19 = .ok (.aload_n 0, 1) := by decide +kernel
theorem dX3_routesOf_20 : decode cX3_routesOf 20 = .ok (.iload_n 1, 1) := by decide +kernel
theorem dX3_routesOf_21 : decode cX3_routesOf 21 = .ok (.iload 4, 2) := by decide +kernel
theorem dX3_routesOf_23 : decode cX3_routesOf 23 = .ok (.invokevirtual 44, 3) := by decide +kernel
theorem dX3_routesOf_26 : decode cX3_routesOf 26 = .ok (.ifCond .eq 81, 3) := by decide +kernel
theorem dX3_routesOf_29 : decode cX3_routesOf 29 = .ok (.bipush 10, 2) := by decide +kernel
theorem dX3_routesOf_31 : decode cX3_routesOf 31 = .ok (.aload_n 0, 1) := by decide +kernel
theorem dX3_routesOf_32 : decode cX3_routesOf 32 = .ok (.getfield 7, 3) := by decide +kernel
theorem dX3_routesOf_35 : decode cX3_routesOf 35 = .ok (.sipush 197, 3) := by decide +kernel
theorem dX3_routesOf_38 : decode cX3_routesOf 38 = .ok (.iconst 4, 1) := by decide +kernel
theorem dX3_routesOf_39 : decode cX3_routesOf 39 = .ok (.iload_n 1, 1) := by decide +kernel
theorem dX3_routesOf_40 : decode cX3_routesOf 40 = .ok (.imul, 1) := by decide +kernel
theorem dX3_routesOf_41 : decode cX3_routesOf 41 = .ok (.iadd, 1) := by decide +kernel
theorem dX3_routesOf_42 : decode cX3_routesOf 42 = .ok (.iload 4, 2) := by decide +kernel
theorem dX3_routesOf_44 : decode cX3_routesOf 44 = .ok (.iadd, 1) := by decide +kernel
theorem dX3_routesOf_45 : decode cX3_routesOf 45 = .ok (.iaload, 1) := by decide +kernel
theorem dX3_routesOf_46 : decode cX3_routesOf 46 = .ok (.imul, 1) := by decide +kernel
theorem dX3_routesOf_47 : decode cX3_routesOf 47 = .ok (.aload_n 0, 1) := by decide +kernel
theorem dX3_routesOf_48 : decode cX3_routesOf 48 = .ok (.getfield 7, 3) := by decide +kernel
theorem dX3_routesOf_51 : decode cX3_routesOf 51 = .ok (.sipush 221, 3) := by decide +kernel
theorem dX3_routesOf_54 : decode cX3_routesOf 54 = .ok (.iconst 4, 1) := by decide +kernel
theorem dX3_routesOf_55 : decode cX3_routesOf 55 = .ok (.iload_n 1, 1) := by decide +kernel
theorem dX3_routesOf_56 : decode cX3_routesOf 56 = .ok (.imul, 1) := by decide +kernel
theorem dX3_routesOf_57 : decode cX3_routesOf 57 = .ok (.iadd, 1) := by decide +kernel
theorem dX3_routesOf_58 : decode cX3_routesOf 58 = .ok (.iload 4, 2) := by decide +kernel
theorem dX3_routesOf_60 : decode cX3_routesOf 60 = .ok (.iadd, 1) := by decide +kernel
theorem dX3_routesOf_61 : decode cX3_routesOf 61 = .ok (.iaload, 1) := by decide +kernel
theorem dX3_routesOf_62 : decode cX3_routesOf 62 = .ok (.iadd, 1) := by decide +kernel
theorem dX3_routesOf_63 : decode cX3_routesOf 63 = .ok (.istore 5, 2) := by decide +kernel
theorem dX3_routesOf_65 : decode cX3_routesOf 65 = .ok (.iload 5, 2) := by decide +kernel
theorem dX3_routesOf_67 : decode cX3_routesOf 67 = .ok (.iload_n 2, 1) := by decide +kernel
theorem dX3_routesOf_68 : decode cX3_routesOf 68 = .ok (.if_icmp .ge 7, 3) := by decide +kernel
theorem dX3_routesOf_71 : decode cX3_routesOf 71 = .ok (.iconst 0, 1) := by decide +kernel
theorem dX3_routesOf_72 : decode cX3_routesOf 72 = .ok (.goto 4, 3) := by decide +kernel
theorem dX3_routesOf_75 : decode cX3_routesOf 75 = .ok (.iload_n 3, 1) := by decide +kernel
theorem dX3_routesOf_76 : decode cX3_routesOf 76 = .ok (.istore_n 3, 1) := by decide +kernel
theorem dX3_routesOf_77 : decode cX3_routesOf 77 = .ok (.iload 5, 2) := by decide +kernel
theorem dX3_routesOf_79 : decode cX3_routesOf 79 = .ok (.iload_n 2, 1) := by decide +kernel
theorem dX3_routesOf_80 : decode cX3_routesOf 80 = .ok (.if_icmp .ge 8, 3) := by decide +kernel
theorem dX3_routesOf_83 : decode cX3_routesOf 83 = .ok (.iload 5, 2) := by decide +kernel
theorem dX3_routesOf_85 : decode cX3_routesOf 85 = .ok (.goto 4, 3) := by decide +kernel
theorem dX3_routesOf_88 : decode cX3_routesOf 88 = .ok (.iload_n 2, 1) := by decide +kernel
theorem dX3_routesOf_89 : decode cX3_routesOf 89 = .ok (.istore_n 2, 1) := by decide +kernel
theorem dX3_routesOf_90 : decode cX3_routesOf 90 = .ok (.iload_n 3, 1) := by decide +kernel
theorem dX3_routesOf_91 : decode cX3_routesOf 91 = .ok (.iload 5, 2) := by decide +kernel
theorem dX3_routesOf_93 : decode cX3_routesOf 93 = .ok (.iload_n 2, 1) := by decide +kernel
theorem dX3_routesOf_94 : decode cX3_routesOf 94 = .ok (.if_icmp .ne 10, 3) := by decide +kernel
theorem dX3_routesOf_97 : decode cX3_routesOf 97 = .ok (.iconst 1, 1) := by decide +kernel
theorem dX3_routesOf_98 : decode cX3_routesOf 98 = .ok (.iload 4, 2) := by decide +kernel
theorem dX3_routesOf_100 : decode cX3_routesOf 100 = .ok (.ishl, 1) := by decide +kernel
theorem dX3_routesOf_101 : decode cX3_routesOf 101 = .ok (.goto 4, 3) := by decide +kernel
theorem dX3_routesOf_104 : decode cX3_routesOf 104 = .ok (.iconst 0, 1) := by decide +kernel
theorem dX3_routesOf_105 : decode cX3_routesOf 105 = .ok (.ior, 1) := by decide +kernel
theorem dX3_routesOf_106 : decode cX3_routesOf 106 = .ok (.istore_n 3, 1) := by decide +kernel
theorem dX3_routesOf_107 : decode cX3_routesOf 107 = .ok (.iinc 4 1, 3) := by decide +kernel
theorem dX3_routesOf_110 : decode cX3_routesOf 110 = .ok (.goto (-102), 3) := by decide +kernel
theorem dX3_routesOf_113 : decode cX3_routesOf 113 = .ok (.iload_n 3, 1) := by decide +kernel
theorem dX3_routesOf_114 : decode cX3_routesOf 114 = .ok (.ireturn, 1) := by decide +kernel
theorem dX3_bits_0 : decode cX3_bits 0 = .ok (.iconst 0, 1) := by decide +kernel
theorem dX3_bits_1 : decode cX3_bits 1 = .ok (.istore_n 1, 1) := by decide +kernel
theorem dX3_bits_2 : decode cX3_bits 2 = .ok (.iconst 0, 1) := by decide +kernel
theorem dX3_bits_3 : decode cX3_bits 3 = .ok (.istore_n 2, 1) := by decide +kernel
theorem dX3_bits_4 : decode cX3_bits 4 = .ok (.iload_n 2, 1) := by decide +kernel
theorem dX3_bits_5 : decode cX3_bits 5 = .ok (.iconst 4, 1) := by decide +kernel
theorem dX3_bits_6 : decode cX3_bits 6 = .ok (.if_icmp .ge 17, 3) := by decide +kernel
theorem dX3_bits_9 : decode cX3_bits 9 = .ok (.iload_n 1, 1) := by decide +kernel
theorem dX3_bits_10 : decode cX3_bits 10 = .ok (.iload_n 0, 1) := by decide +kernel
theorem dX3_bits_11 : decode cX3_bits 11 = .ok (.iload_n 2, 1) := by decide +kernel
theorem dX3_bits_12 : decode cX3_bits 12 = .ok (.ishr, 1) := by decide +kernel
theorem dX3_bits_13 : decode cX3_bits 13 = .ok (.iconst 1, 1) := by decide +kernel
theorem dX3_bits_14 : decode cX3_bits 14 = .ok (.iand, 1) := by decide +kernel
theorem dX3_bits_15 : decode cX3_bits 15 = .ok (.iadd, 1) := by decide +kernel
theorem dX3_bits_16 : decode cX3_bits 16 = .ok (.istore_n 1, 1) := by decide +kernel
theorem dX3_bits_17 : decode cX3_bits 17 = .ok (.iinc 2 1, 3) := by decide +kernel
theorem dX3_bits_20 : decode cX3_bits 20 = .ok (.goto (-16), 3) := by decide +kernel
theorem dX3_bits_23 : decode cX3_bits 23 = .ok (.iload_n 1, 1) := by decide +kernel
theorem dX3_bits_24 : decode cX3_bits 24 = .ok (.ireturn, 1) := by decide +kernel
theorem dX3_linkOf_0 : decode cX3_linkOf 0 = .ok (.aload_n 0, 1) := by decide +kernel
theorem dX3_linkOf_1 : decode cX3_linkOf 1 = .ok (.iload_n 1, 1) := by decide +kernel
theorem dX3_linkOf_2 : decode cX3_linkOf 2 = .ok (.bipush 16, 2) := by decide +kernel
theorem dX3_linkOf_4 : decode cX3_linkOf 4 = .ok (.idiv, 1) := by decide +kernel
theorem dX3_linkOf_5 : decode cX3_linkOf 5 = .ok (.invokevirtual 48, 3) := by decide +kernel
theorem dX3_linkOf_8 : decode cX3_linkOf 8 = .ok (.istore_n 2, 1) := by decide +kernel
theorem dX3_linkOf_9 : decode cX3_linkOf 9 = .ok (.iload_n 2, 1) := by decide +kernel
theorem dX3_linkOf_10 : decode cX3_linkOf 10 = .ok (.invokestatic 51, 3) := by decide +kernel
theorem dX3_linkOf_13 : decode cX3_linkOf 13 = .ok (.istore_n 3, 1) := by decide +kernel
theorem dX3_linkOf_14 : decode cX3_linkOf 14 = .ok (.iload_n 3, 1) := by decide +kernel
theorem dX3_linkOf_15 : decode cX3_linkOf 15 = .ok (.ifCond .ne 5, 3) := by decide +kernel
theorem dX3_linkOf_18 : decode cX3_linkOf 18 = .ok (.iconst (-1), 1) := by decide +kernel
theorem dX3_linkOf_19 : decode cX3_linkOf 19 = .ok (.ireturn, 1) := by decide +kernel
theorem dX3_linkOf_20 : decode cX3_linkOf 20 = .ok (.iload_n 1, 1) := by decide +kernel
theorem dX3_linkOf_21 : decode cX3_linkOf 21 = .ok (.bipush 16, 2) := by decide +kernel
theorem dX3_linkOf_23 : decode cX3_linkOf 23 = .ok (.irem, 1) := by decide +kernel
theorem dX3_linkOf_24 : decode cX3_linkOf 24 = .ok (.iload_n 3, 1) := by decide +kernel
theorem dX3_linkOf_25 : decode cX3_linkOf 25 = .ok (.irem, 1) := by decide +kernel
theorem dX3_linkOf_26 : decode cX3_linkOf 26 = .ok (.istore 4, 2) := by decide +kernel
theorem dX3_linkOf_28 : decode cX3_linkOf 28 = .ok (.iconst 0, 1) := by decide +kernel
theorem dX3_linkOf_29 : decode cX3_linkOf 29 = .ok (.istore 5, 2) := by decide +kernel
theorem dX3_linkOf_31 : decode cX3_linkOf 31 = .ok (.iload_n 2, 1) := by decide +kernel
theorem dX3_linkOf_32 : decode cX3_linkOf 32 = .ok (.iload 5, 2) := by decide +kernel
theorem dX3_linkOf_34 : decode cX3_linkOf 34 = .ok (.ishr, 1) := by decide +kernel
theorem dX3_linkOf_35 : decode cX3_linkOf 35 = .ok (.iconst 1, 1) := by decide +kernel
theorem dX3_linkOf_36 : decode cX3_linkOf 36 = .ok (.iand, 1) := by decide +kernel
theorem dX3_linkOf_37 : decode cX3_linkOf 37 = .ok (.ifCond .eq 8, 3) := by decide +kernel
theorem dX3_linkOf_40 : decode cX3_linkOf 40 = .ok (.iload 4, 2) := by decide +kernel
theorem dX3_linkOf_42 : decode cX3_linkOf 42 = .ok (.ifCond .le 20, 3) := by decide +kernel
theorem dX3_linkOf_45 : decode cX3_linkOf 45 = .ok (.iload 4, 2) := by decide +kernel
theorem dX3_linkOf_47 : decode cX3_linkOf 47 = .ok (.iload_n 2, 1) := by decide +kernel
theorem dX3_linkOf_48 : decode cX3_linkOf 48 = .ok (.iload 5, 2) := by decide +kernel
theorem dX3_linkOf_50 : decode cX3_linkOf 50 = .ok (.ishr, 1) := by decide +kernel
theorem dX3_linkOf_51 : decode cX3_linkOf 51 = .ok (.iconst 1, 1) := by decide +kernel
theorem dX3_linkOf_52 : decode cX3_linkOf 52 = .ok (.iand, 1) := by decide +kernel
theorem dX3_linkOf_53 : decode cX3_linkOf 53 = .ok (.isub, 1) := by decide +kernel
theorem dX3_linkOf_54 : decode cX3_linkOf 54 = .ok (.istore 4, 2) := by decide +kernel
theorem dX3_linkOf_56 : decode cX3_linkOf 56 = .ok (.iinc 5 1, 3) := by decide +kernel
theorem dX3_linkOf_59 : decode cX3_linkOf 59 = .ok (.goto (-28), 3) := by decide +kernel
theorem dX3_linkOf_62 : decode cX3_linkOf 62 = .ok (.iload_n 1, 1) := by decide +kernel
theorem dX3_linkOf_63 : decode cX3_linkOf 63 = .ok (.bipush 16, 2) := by decide +kernel
theorem dX3_linkOf_65 : decode cX3_linkOf 65 = .ok (.irem, 1) := by decide +kernel
theorem dX3_linkOf_66 : decode cX3_linkOf 66 = .ok (.iload_n 3, 1) := by decide +kernel
theorem dX3_linkOf_67 : decode cX3_linkOf 67 = .ok (.idiv, 1) := by decide +kernel
theorem dX3_linkOf_68 : decode cX3_linkOf 68 = .ok (.aload_n 0, 1) := by decide +kernel
theorem dX3_linkOf_69 : decode cX3_linkOf 69 = .ok (.iload 5, 2) := by decide +kernel
theorem dX3_linkOf_71 : decode cX3_linkOf 71 = .ok (.invokevirtual 41, 3) := by decide +kernel
theorem dX3_linkOf_74 : decode cX3_linkOf 74 = .ok (.irem, 1) := by decide +kernel
theorem dX3_linkOf_75 : decode cX3_linkOf 75 = .ok (.istore 4, 2) := by decide +kernel
theorem dX3_linkOf_77 : decode cX3_linkOf 77 = .ok (.iconst 4, 1) := by decide +kernel
theorem dX3_linkOf_78 : decode cX3_linkOf 78 = .ok (.iload 5, 2) := by decide +kernel
theorem dX3_linkOf_80 : decode cX3_linkOf 80 = .ok (.imul, 1) := by decide +kernel
theorem dX3_linkOf_81 : decode cX3_linkOf 81 = .ok (.istore 6, 2) := by decide +kernel
theorem dX3_linkOf_83 : decode cX3_linkOf 83 = .ok (.aload_n 0, 1) := by decide +kernel
theorem dX3_linkOf_84 : decode cX3_linkOf 84 = .ok (.getfield 7, 3) := by decide +kernel
theorem dX3_linkOf_87 : decode cX3_linkOf 87 = .ok (.iconst 5, 1) := by decide +kernel
theorem dX3_linkOf_88 : decode cX3_linkOf 88 = .ok (.iload 6, 2) := by decide +kernel
theorem dX3_linkOf_90 : decode cX3_linkOf 90 = .ok (.iadd, 1) := by decide +kernel
theorem dX3_linkOf_91 : decode cX3_linkOf 91 = .ok (.iaload, 1) := by decide +kernel
theorem dX3_linkOf_92 : decode cX3_linkOf 92 = .ok (.ifCond .eq 8, 3) := by decide +kernel
theorem dX3_linkOf_95 : decode cX3_linkOf 95 = .ok (.iload 4, 2) := by decide +kernel
theorem dX3_linkOf_97 : decode cX3_linkOf 97 = .ok (.ifCond .le 23, 3) := by decide +kernel
theorem dX3_linkOf_100 : decode cX3_linkOf 100 = .ok (.iload 4, 2) := by decide +kernel
theorem dX3_linkOf_102 : decode cX3_linkOf 102 = .ok (.aload_n 0, 1) := by decide +kernel
theorem dX3_linkOf_103 : decode cX3_linkOf 103 = .ok (.getfield 7, 3) := by decide +kernel
theorem dX3_linkOf_106 : decode cX3_linkOf 106 = .ok (.iconst 5, 1) := by decide +kernel
theorem dX3_linkOf_107 : decode cX3_linkOf 107 = .ok (.iload 6, 2) := by decide +kernel
theorem dX3_linkOf_109 : decode cX3_linkOf 109 = .ok (.iadd, 1) := by decide +kernel
theorem dX3_linkOf_110 : decode cX3_linkOf 110 = .ok (.iaload, 1) := by decide +kernel
theorem dX3_linkOf_111 : decode cX3_linkOf 111 = .ok (.isub, 1) := by decide +kernel
theorem dX3_linkOf_112 : decode cX3_linkOf 112 = .ok (.istore 4, 2) := by decide +kernel
theorem dX3_linkOf_114 : decode cX3_linkOf 114 = .ok (.iinc 6 1, 3) := by decide +kernel
theorem dX3_linkOf_117 : decode cX3_linkOf 117 = .ok (.goto (-34), 3) := by decide +kernel
theorem dX3_linkOf_120 : decode cX3_linkOf 120 = .ok (.iload 6, 2) := by decide +kernel
theorem dX3_linkOf_122 : decode cX3_linkOf 122 = .ok (.ireturn, 1) := by decide +kernel
theorem dX3_laysBefore_0 : decode cX3_laysBefore 0 = .ok (.iconst 0, 1) := by decide +kernel
theorem dX3_laysBefore_1 : decode cX3_laysBefore 1 = .ok (.istore_n 1, 1) := by decide +kernel
theorem dX3_laysBefore_2 : decode cX3_laysBefore 2 = .ok (.iload_n 1, 1) := by decide +kernel
theorem dX3_laysBefore_3 : decode cX3_laysBefore 3 = .ok (.bipush 96, 2) := by decide +kernel
theorem dX3_laysBefore_5 : decode cX3_laysBefore 5 = .ok (.if_icmp .ge 20, 3) := by decide +kernel
theorem dX3_laysBefore_8 : decode cX3_laysBefore 8 = .ok (.aload_n 0, 1) := by decide +kernel
