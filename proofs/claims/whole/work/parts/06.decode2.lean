theorem dX3_laysBefore_9 : decode cX3_laysBefore 9 = .ok (.getfield 19, 3) := by decide +kernel
theorem dX3_laysBefore_12 : decode cX3_laysBefore 12 = .ok (.iload_n 1, 1) := by decide +kernel
theorem dX3_laysBefore_13 : decode cX3_laysBefore 13 = .ok (.aload_n 0, 1) := by decide +kernel
theorem dX3_laysBefore_14 : decode cX3_laysBefore 14 = .ok (.iload_n 1, 1) := by decide +kernel
theorem dX3_laysBefore_15 : decode cX3_laysBefore 15 = .ok (.invokevirtual 54, 3) := by decide +kernel
theorem dX3_laysBefore_18 : decode cX3_laysBefore 18 = .ok (.iastore, 1) := by decide +kernel
theorem dX3_laysBefore_19 : decode cX3_laysBefore 19 = .ok (.iinc 1 1, 3) := by decide +kernel
theorem dX3_laysBefore_22 : decode cX3_laysBefore 22 = .ok (.goto (-20), 3) := by decide +kernel
theorem dX3_laysBefore_25 : decode cX3_laysBefore 25 = .ok (.return_, 1) := by decide +kernel
theorem dX3_diverts_0 : decode cX3_diverts 0 = .ok (.iconst 0, 1) := by decide +kernel
theorem dX3_diverts_1 : decode cX3_diverts 1 = .ok (.istore_n 1, 1) := by decide +kernel
theorem dX3_diverts_2 : decode cX3_diverts 2 = .ok (.iconst 0, 1) := by decide +kernel
theorem dX3_diverts_3 : decode cX3_diverts 3 = .ok (.istore_n 2, 1) := by decide +kernel
theorem dX3_diverts_4 : decode cX3_diverts 4 = .ok (.iload_n 2, 1) := by decide +kernel
theorem dX3_diverts_5 : decode cX3_diverts 5 = .ok (.bipush 96, 2) := by decide +kernel
theorem dX3_diverts_7 : decode cX3_diverts 7 = .ok (.if_icmp .ge 81, 3) := by decide +kernel
theorem dX3_diverts_10 : decode cX3_diverts 10 = .ok (.aload_n 0, 1) := by decide +kernel
theorem dX3_diverts_11 : decode cX3_diverts 11 = .ok (.getfield 7, 3) := by decide +kernel
theorem dX3_diverts_14 : decode cX3_diverts 14 = .ok (.sipush 463, 3) := by decide +kernel
theorem dX3_diverts_17 : decode cX3_diverts 17 = .ok (.iaload, 1) := by decide +kernel
theorem dX3_diverts_18 : decode cX3_diverts 18 = .ok (.ifCond .le 70, 3) := by decide +kernel
theorem dX3_diverts_21 : decode cX3_diverts 21 = .ok (.aload_n 0, 1) := by decide +kernel
theorem dX3_diverts_22 : decode cX3_diverts 22 = .ok (.iload_n 2, 1) := by decide +kernel
theorem dX3_diverts_23 : decode cX3_diverts 23 = .ok (.invokevirtual 54, 3) := by decide +kernel
theorem dX3_diverts_26 : decode cX3_diverts 26 = .ok (.istore_n 3, 1) := by decide +kernel
theorem dX3_diverts_27 : decode cX3_diverts 27 = .ok (.aload_n 0, 1) := by decide +kernel
theorem dX3_diverts_28 : decode cX3_diverts 28 = .ok (.getfield 19, 3) := by decide +kernel
theorem dX3_diverts_31 : decode cX3_diverts 31 = .ok (.iload_n 2, 1) := by decide +kernel
theorem dX3_diverts_32 : decode cX3_diverts 32 = .ok (.iaload, 1) := by decide +kernel
theorem dX3_diverts_33 : decode cX3_diverts 33 = .ok (.iconst (-1), 1) := by decide +kernel
theorem dX3_diverts_34 : decode cX3_diverts 34 = .ok (.if_icmp .eq 48, 3) := by decide +kernel
theorem dX3_diverts_37 : decode cX3_diverts 37 = .ok (.iload_n 3, 1) := by decide +kernel
theorem dX3_diverts_38 : decode cX3_diverts 38 = .ok (.iconst (-1), 1) := by decide +kernel
theorem dX3_diverts_39 : decode cX3_diverts 39 = .ok (.if_icmp .eq 43, 3) := by decide +kernel
theorem dX3_diverts_42 : decode cX3_diverts 42 = .ok (.iload_n 3, 1) := by decide +kernel
theorem dX3_diverts_43 : decode cX3_diverts 43 = .ok (.aload_n 0, 1) := by decide +kernel
theorem dX3_diverts_44 : decode cX3_diverts 44 = .ok (.getfield 19, 3) := by decide +kernel
theorem dX3_diverts_47 : decode cX3_diverts 47 = .ok (.iload_n 2, 1) := by decide +kernel
theorem dX3_diverts_48 : decode cX3_diverts 48 = .ok (.iaload, 1) := by decide +kernel
theorem dX3_diverts_49 : decode cX3_diverts 49 = .ok (.if_icmp .eq 33, 3) := by decide +kernel
theorem dX3_diverts_52 : decode cX3_diverts 52 = .ok (.aload_n 0, 1) := by decide +kernel
theorem dX3_diverts_53 : decode cX3_diverts 53 = .ok (.getfield 7, 3) := by decide +kernel
theorem dX3_diverts_56 : decode cX3_diverts 56 = .ok (.sipush 245, 3) := by decide +kernel
theorem dX3_diverts_59 : decode cX3_diverts 59 = .ok (.iload_n 2, 1) := by decide +kernel
theorem dX3_diverts_60 : decode cX3_diverts 60 = .ok (.iadd, 1) := by decide +kernel
theorem dX3_diverts_61 : decode cX3_diverts 61 = .ok (.aload_n 0, 1) := by decide +kernel
theorem dX3_diverts_62 : decode cX3_diverts 62 = .ok (.getfield 7, 3) := by decide +kernel
theorem dX3_diverts_65 : decode cX3_diverts 65 = .ok (.sipush 462, 3) := by decide +kernel
theorem dX3_diverts_68 : decode cX3_diverts 68 = .ok (.iaload, 1) := by decide +kernel
theorem dX3_diverts_69 : decode cX3_diverts 69 = .ok (.aload_n 0, 1) := by decide +kernel
theorem dX3_diverts_70 : decode cX3_diverts 70 = .ok (.getfield 7, 3) := by decide +kernel
theorem dX3_diverts_73 : decode cX3_diverts 73 = .ok (.sipush 463, 3) := by decide +kernel
theorem dX3_diverts_76 : decode cX3_diverts 76 = .ok (.iaload, 1) := by decide +kernel
theorem dX3_diverts_77 : decode cX3_diverts 77 = .ok (.iadd, 1) := by decide +kernel
theorem dX3_diverts_78 : decode cX3_diverts 78 = .ok (.iastore, 1) := by decide +kernel
theorem dX3_diverts_79 : decode cX3_diverts 79 = .ok (.iinc 1 1, 3) := by decide +kernel
theorem dX3_diverts_82 : decode cX3_diverts 82 = .ok (.iinc 2 1, 3) := by decide +kernel
theorem dX3_diverts_85 : decode cX3_diverts 85 = .ok (.goto (-81), 3) := by decide +kernel
theorem dX3_diverts_88 : decode cX3_diverts 88 = .ok (.iload_n 1, 1) := by decide +kernel
theorem dX3_diverts_89 : decode cX3_diverts 89 = .ok (.ireturn, 1) := by decide +kernel
theorem dX3_dispatches_0 : decode cX3_dispatches 0 = .ok (.aload_n 0, 1) := by decide +kernel
theorem dX3_dispatches_1 : decode cX3_dispatches 1 = .ok (.iload_n 1, 1) := by decide +kernel
theorem dX3_dispatches_2 : decode cX3_dispatches 2 = .ok (.sipush 128, 3) := by decide +kernel
theorem dX3_dispatches_5 : decode cX3_dispatches 5 = .ok (.irem, 1) := by decide +kernel
theorem dX3_dispatches_6 : decode cX3_dispatches 6 = .ok (.invokevirtual 54, 3) := by decide +kernel
theorem dX3_dispatches_9 : decode cX3_dispatches 9 = .ok (.istore_n 2, 1) := by decide +kernel
theorem dX3_dispatches_10 : decode cX3_dispatches 10 = .ok (.iload_n 2, 1) := by decide +kernel
theorem dX3_dispatches_11 : decode cX3_dispatches 11 = .ok (.iconst (-1), 1) := by decide +kernel
theorem dX3_dispatches_12 : decode cX3_dispatches 12 = .ok (.if_icmp .ne 18, 3) := by decide +kernel
theorem dX3_dispatches_15 : decode cX3_dispatches 15 = .ok (.aload_n 0, 1) := by decide +kernel
theorem dX3_dispatches_16 : decode cX3_dispatches 16 = .ok (.getfield 7, 3) := by decide +kernel
theorem dX3_dispatches_19 : decode cX3_dispatches 19 = .ok (.sipush 467, 3) := by decide +kernel
theorem dX3_dispatches_22 : decode cX3_dispatches 22 = .ok (.dup2, 1) := by decide +kernel
theorem dX3_dispatches_23 : decode cX3_dispatches 23 = .ok (.iaload, 1) := by decide +kernel
theorem dX3_dispatches_24 : decode cX3_dispatches 24 = .ok (.iconst 1, 1) := by decide +kernel
theorem dX3_dispatches_25 : decode cX3_dispatches 25 = .ok (.iadd, 1) := by decide +kernel
theorem dX3_dispatches_26 : decode cX3_dispatches 26 = .ok (.iastore, 1) := by decide +kernel
theorem dX3_dispatches_27 : decode cX3_dispatches 27 = .ok (.goto 68, 3) := by decide +kernel
theorem dX3_dispatches_30 : decode cX3_dispatches 30 = .ok (.aload_n 0, 1) := by decide +kernel
theorem dX3_dispatches_31 : decode cX3_dispatches 31 = .ok (.getfield 7, 3) := by decide +kernel
theorem dX3_dispatches_34 : decode cX3_dispatches 34 = .ok (.bipush 21, 2) := by decide +kernel
theorem dX3_dispatches_36 : decode cX3_dispatches 36 = .ok (.iload_n 2, 1) := by decide +kernel
theorem dX3_dispatches_37 : decode cX3_dispatches 37 = .ok (.iadd, 1) := by decide +kernel
theorem dX3_dispatches_38 : decode cX3_dispatches 38 = .ok (.iaload, 1) := by decide +kernel
theorem dX3_dispatches_39 : decode cX3_dispatches 39 = .ok (.bipush 10, 2) := by decide +kernel
theorem dX3_dispatches_41 : decode cX3_dispatches 41 = .ok (.if_icmp .ne 18, 3) := by decide +kernel
theorem dX3_dispatches_44 : decode cX3_dispatches 44 = .ok (.aload_n 0, 1) := by decide +kernel
theorem dX3_dispatches_45 : decode cX3_dispatches 45 = .ok (.getfield 7, 3) := by decide +kernel
theorem dX3_dispatches_48 : decode cX3_dispatches 48 = .ok (.sipush 469, 3) := by decide +kernel
theorem dX3_dispatches_51 : decode cX3_dispatches 51 = .ok (.dup2, 1) := by decide +kernel
theorem dX3_dispatches_52 : decode cX3_dispatches 52 = .ok (.iaload, 1) := by decide +kernel
theorem dX3_dispatches_53 : decode cX3_dispatches 53 = .ok (.iconst 1, 1) := by decide +kernel
theorem dX3_dispatches_54 : decode cX3_dispatches 54 = .ok (.iadd, 1) := by decide +kernel
theorem dX3_dispatches_55 : decode cX3_dispatches 55 = .ok (.iastore, 1) := by decide +kernel
theorem dX3_dispatches_56 : decode cX3_dispatches 56 = .ok (.goto 39, 3) := by decide +kernel
theorem dX3_dispatches_59 : decode cX3_dispatches 59 = .ok (.aload_n 0, 1) := by decide +kernel
theorem dX3_dispatches_60 : decode cX3_dispatches 60 = .ok (.getfield 7, 3) := by decide +kernel
theorem dX3_dispatches_63 : decode cX3_dispatches 63 = .ok (.bipush 37, 2) := by decide +kernel
theorem dX3_dispatches_65 : decode cX3_dispatches 65 = .ok (.bipush 10, 2) := by decide +kernel
theorem dX3_dispatches_67 : decode cX3_dispatches 67 = .ok (.iload_n 2, 1) := by decide +kernel
theorem dX3_dispatches_68 : decode cX3_dispatches 68 = .ok (.imul, 1) := by decide +kernel
theorem dX3_dispatches_69 : decode cX3_dispatches 69 = .ok (.iadd, 1) := by decide +kernel
theorem dX3_dispatches_70 : decode cX3_dispatches 70 = .ok (.aload_n 0, 1) := by decide +kernel
theorem dX3_dispatches_71 : decode cX3_dispatches 71 = .ok (.getfield 7, 3) := by decide +kernel
theorem dX3_dispatches_74 : decode cX3_dispatches 74 = .ok (.bipush 21, 2) := by decide +kernel
theorem dX3_dispatches_76 : decode cX3_dispatches 76 = .ok (.iload_n 2, 1) := by decide +kernel
theorem dX3_dispatches_77 : decode cX3_dispatches 77 = .ok (.iadd, 1) := by decide +kernel
theorem dX3_dispatches_78 : decode cX3_dispatches 78 = .ok (.iaload, 1) := by decide +kernel
theorem dX3_dispatches_79 : decode cX3_dispatches 79 = .ok (.iadd, 1) := by decide +kernel
theorem dX3_dispatches_80 : decode cX3_dispatches 80 = .ok (.iload_n 1, 1) := by decide +kernel
theorem dX3_dispatches_81 : decode cX3_dispatches 81 = .ok (.iastore, 1) := by decide +kernel
theorem dX3_dispatches_82 : decode cX3_dispatches 82 = .ok (.aload_n 0, 1) := by decide +kernel
theorem dX3_dispatches_83 : decode cX3_dispatches 83 = .ok (.getfield 7, 3) := by decide +kernel
theorem dX3_dispatches_86 : decode cX3_dispatches 86 = .ok (.bipush 21, 2) := by decide +kernel
theorem dX3_dispatches_88 : decode cX3_dispatches 88 = .ok (.iload_n 2, 1) := by decide +kernel
theorem dX3_dispatches_89 : decode cX3_dispatches 89 = .ok (.iadd, 1) := by decide +kernel
theorem dX3_dispatches_90 : decode cX3_dispatches 90 = .ok (.dup2, 1) := by decide +kernel
theorem dX3_dispatches_91 : decode cX3_dispatches 91 = .ok (.iaload, 1) := by decide +kernel
theorem dX3_dispatches_92 : decode cX3_dispatches 92 = .ok (.iconst 1, 1) := by decide +kernel
theorem dX3_dispatches_93 : decode cX3_dispatches 93 = .ok (.iadd, 1) := by decide +kernel
theorem dX3_dispatches_94 : decode cX3_dispatches 94 = .ok (.iastore, 1) := by decide +kernel
theorem dX3_dispatches_95 : decode cX3_dispatches 95 = .ok (.return_, 1) := by decide +kernel
theorem dX3_levelOf_0 : decode cX3_levelOf 0 = .ok (.aload_n 0, 1) := by decide +kernel
theorem dX3_levelOf_1 : decode cX3_levelOf 1 = .ok (.getfield 7, 3) := by decide +kernel
theorem dX3_levelOf_4 : decode cX3_levelOf 4 = .ok (.bipush 21, 2) := by decide +kernel
theorem dX3_levelOf_6 : decode cX3_levelOf 6 = .ok (.iload_n 1, 1) := by decide +kernel
theorem dX3_levelOf_7 : decode cX3_levelOf 7 = .ok (.iadd, 1) := by decide +kernel
theorem dX3_levelOf_8 : decode cX3_levelOf 8 = .ok (.iaload, 1) := by decide +kernel
theorem dX3_levelOf_9 : decode cX3_levelOf 9 = .ok (.istore_n 2, 1) := by decide +kernel
theorem dX3_levelOf_10 : decode cX3_levelOf 10 = .ok (.iload_n 2, 1) := by decide +kernel
theorem dX3_levelOf_11 : decode cX3_levelOf 11 = .ok (.iconst 4, 1) := by decide +kernel
theorem dX3_levelOf_12 : decode cX3_levelOf 12 = .ok (.if_icmp .ge 7, 3) := by decide +kernel
theorem dX3_levelOf_15 : decode cX3_levelOf 15 = .ok (.iconst 0, 1) := by decide +kernel
theorem dX3_levelOf_16 : decode cX3_levelOf 16 = .ok (.goto 24, 3) := by decide +kernel
theorem dX3_levelOf_19 : decode cX3_levelOf 19 = .ok (.iload_n 2, 1) := by decide +kernel
theorem dX3_levelOf_20 : decode cX3_levelOf 20 = .ok (.bipush 6, 2) := by decide +kernel
theorem dX3_levelOf_22 : decode cX3_levelOf 22 = .ok (.if_icmp .ge 7, 3) := by decide +kernel
theorem dX3_levelOf_25 : decode cX3_levelOf 25 = .ok (.iconst 1, 1) := by decide +kernel
theorem dX3_levelOf_26 : decode cX3_levelOf 26 = .ok (.goto 14, 3) := by decide +kernel
theorem dX3_levelOf_29 : decode cX3_levelOf 29 = .ok (.iload_n 2, 1) := by decide +kernel
theorem dX3_levelOf_30 : decode cX3_levelOf 30 = .ok (.bipush 8, 2) := by decide +kernel
theorem dX3_levelOf_32 : decode cX3_levelOf 32 = .ok (.if_icmp .ge 7, 3) := by decide +kernel
theorem dX3_levelOf_35 : decode cX3_levelOf 35 = .ok (.iconst 2, 1) := by decide +kernel
theorem dX3_levelOf_36 : decode cX3_levelOf 36 = .ok (.goto 4, 3) := by decide +kernel
theorem dX3_levelOf_39 : decode cX3_levelOf 39 = .ok (.iconst 3, 1) := by decide +kernel
theorem dX3_levelOf_40 : decode cX3_levelOf 40 = .ok (.ireturn, 1) := by decide +kernel
theorem dX3_addLinkset_0 : decode cX3_addLinkset 0 = .ok (.iload_n 1, 1) := by decide +kernel
theorem dX3_addLinkset_1 : decode cX3_addLinkset 1 = .ok (.iconst 1, 1) := by decide +kernel
theorem dX3_addLinkset_2 : decode cX3_addLinkset 2 = .ok (.iconst 4, 1) := by decide +kernel
theorem dX3_addLinkset_3 : decode cX3_addLinkset 3 = .ok (.invokestatic 33, 3) := by decide +kernel
theorem dX3_addLinkset_6 : decode cX3_addLinkset 6 = .ok (.ifCond .ne 10, 3) := by decide +kernel
theorem dX3_addLinkset_9 : decode cX3_addLinkset 9 = .ok (.aload_n 0, 1) := by decide +kernel
theorem dX3_addLinkset_10 : decode cX3_addLinkset 10 = .ok (.bipush (-2), 2) := by decide +kernel
theorem dX3_addLinkset_12 : decode cX3_addLinkset 12 = .ok (.invokevirtual 29, 3) := by decide +kernel
theorem dX3_addLinkset_15 : decode cX3_addLinkset 15 = .ok (.ireturn, 1) := by decide +kernel
theorem dX3_addLinkset_16 : decode cX3_addLinkset 16 = .ok (.aload_n 0, 1) := by decide +kernel
theorem dX3_addLinkset_17 : decode cX3_addLinkset 17 = .ok (.getfield 7, 3) := by decide +kernel
theorem dX3_addLinkset_20 : decode cX3_addLinkset 20 = .ok (.iconst 0, 1) := by decide +kernel
theorem dX3_addLinkset_21 : decode cX3_addLinkset 21 = .ok (.iaload, 1) := by decide +kernel
theorem dX3_addLinkset_22 : decode cX3_addLinkset 22 = .ok (.iconst 4, 1) := by decide +kernel
theorem dX3_addLinkset_23 : decode cX3_addLinkset 23 = .ok (.if_icmp .ne 10, 3) := by decide +kernel
theorem dX3_addLinkset_26 : decode cX3_addLinkset 26 = .ok (.aload_n 0, 1) := by decide +kernel
theorem dX3_addLinkset_27 : decode cX3_addLinkset 27 = .ok (.bipush (-4), 2) := by decide +kernel
theorem dX3_addLinkset_29 : decode cX3_addLinkset 29 = .ok (.invokevirtual 29, 3) := by decide +kernel
theorem dX3_addLinkset_32 : decode cX3_addLinkset 32 = .ok (.ireturn, 1) := by decide +kernel
theorem dX3_addLinkset_33 : decode cX3_addLinkset 33 = .ok (.aload_n 0, 1) := by decide +kernel
theorem dX3_addLinkset_34 : decode cX3_addLinkset 34 = .ok (.invokevirtual 57, 3) := by decide +kernel
theorem dX3_addLinkset_37 : decode cX3_addLinkset 37 = .ok (.aload_n 0, 1) := by decide +kernel
theorem dX3_addLinkset_38 : decode cX3_addLinkset 38 = .ok (.getfield 7, 3) := by decide +kernel
theorem dX3_addLinkset_41 : decode cX3_addLinkset 41 = .ok (.iconst 0, 1) := by decide +kernel
theorem dX3_addLinkset_42 : decode cX3_addLinkset 42 = .ok (.iaload, 1) := by decide +kernel
theorem dX3_addLinkset_43 : decode cX3_addLinkset 43 = .ok (.istore_n 2, 1) := by decide +kernel
theorem dX3_addLinkset_44 : decode cX3_addLinkset 44 = .ok (.aload_n 0, 1) := by decide +kernel
theorem dX3_addLinkset_45 : decode cX3_addLinkset 45 = .ok (.getfield 7, 3) := by decide +kernel
theorem dX3_addLinkset_48 : decode cX3_addLinkset 48 = .ok (.iconst 1, 1) := by decide +kernel
theorem dX3_addLinkset_49 : decode cX3_addLinkset 49 = .ok (.iload_n 2, 1) := by decide +kernel
theorem dX3_addLinkset_50 : decode cX3_addLinkset 50 = .ok (.iadd, 1) := by decide +kernel
theorem dX3_addLinkset_51 : decode cX3_addLinkset 51 = .ok (.iload_n 1, 1) := by decide +kernel
theorem dX3_addLinkset_52 : decode cX3_addLinkset 52 = .ok (.iastore, 1) := by decide +kernel
theorem dX3_addLinkset_53 : decode cX3_addLinkset 53 = .ok (.iconst 0, 1) := by decide +kernel
theorem dX3_addLinkset_54 : decode cX3_addLinkset 54 = .ok (.istore_n 3, 1) := by decide +kernel
theorem dX3_addLinkset_55 : decode cX3_addLinkset 55 = .ok (.iload_n 3, 1) := by decide +kernel
theorem dX3_addLinkset_56 : decode cX3_addLinkset 56 = .ok (.iconst 4, 1) := by decide +kernel
theorem dX3_addLinkset_57 : decode cX3_addLinkset 57 = .ok (.if_icmp .ge 45, 3) := by decide +kernel
theorem dX3_addLinkset_60 : decode cX3_addLinkset 60 = .ok (.aload_n 0, 1) := by decide +kernel
theorem dX3_addLinkset_61 : decode cX3_addLinkset 61 = .ok (.getfield 7, 3) := by decide +kernel
theorem dX3_addLinkset_64 : decode cX3_addLinkset 64 = .ok (.iconst 5, 1) := by decide +kernel
theorem dX3_addLinkset_65 : decode cX3_addLinkset 65 = .ok (.iconst 4, 1) := by decide +kernel
theorem dX3_addLinkset_66 : decode cX3_addLinkset 66 = .ok (.iload_n 2, 1) := by decide +kernel
theorem dX3_addLinkset_67 : decode cX3_addLinkset 67 = .ok (.imul, 1) := by decide +kernel
theorem dX3_addLinkset_68 : decode cX3_addLinkset 68 = .ok (.iadd, 1) := by decide +kernel
theorem dX3_addLinkset_69 : decode cX3_addLinkset 69 = .ok (.iload_n 3, 1) := by decide +kernel
theorem dX3_addLinkset_70 : decode cX3_addLinkset 70 = .ok (.iadd, 1) := by decide +kernel
theorem dX3_addLinkset_71 : decode cX3_addLinkset 71 = .ok (.iload_n 3, 1) := by decide +kernel
theorem dX3_addLinkset_72 : decode cX3_addLinkset 72 = .ok (.iload_n 1, 1) := by decide +kernel
theorem dX3_addLinkset_73 : decode cX3_addLinkset 73 = .ok (.if_icmp .ge 7, 3) := by decide +kernel
theorem dX3_addLinkset_76 : decode cX3_addLinkset 76 = .ok (.iconst 1, 1) := by decide +kernel
theorem dX3_addLinkset_77 : decode cX3_addLinkset 77 = .ok (.goto 4, 3) := by decide +kernel
theorem dX3_addLinkset_80 : decode cX3_addLinkset 80 = .ok (.iconst 0, 1) := by decide +kernel
theorem dX3_addLinkset_81 : decode cX3_addLinkset 81 = .ok (.iastore, 1) := by decide +kernel
theorem dX3_addLinkset_82 : decode cX3_addLinkset 82 = .ok (.aload_n 0, 1) := by decide +kernel
theorem dX3_addLinkset_83 : decode cX3_addLinkset 83 = .ok (.getfield 7, 3) := by decide +kernel
theorem dX3_addLinkset_86 : decode cX3_addLinkset 86 = .ok (.bipush 21, 2) := by decide +kernel
theorem dX3_addLinkset_88 : decode cX3_addLinkset 88 = .ok (.iconst 4, 1) := by decide +kernel
theorem dX3_addLinkset_89 : decode cX3_addLinkset 89 = .ok (.iload_n 2, 1) := by decide +kernel
theorem dX3_addLinkset_90 : decode cX3_addLinkset 90 = .ok (.imul, 1) := by decide +kernel
theorem dX3_addLinkset_91 : decode cX3_addLinkset 91 = .ok (.iadd, 1) := by decide +kernel
theorem dX3_addLinkset_92 : decode cX3_addLinkset 92 = .ok (.iload_n 3, 1) := by decide +kernel
theorem dX3_addLinkset_93 : decode cX3_addLinkset 93 = .ok (.iadd, 1) := by decide +kernel
theorem dX3_addLinkset_94 : decode cX3_addLinkset 94 = .ok (.iconst 0, 1) := by decide +kernel
theorem dX3_addLinkset_95 : decode cX3_addLinkset 95 = .ok (.iastore, 1) := by decide +kernel
theorem dX3_addLinkset_96 : decode cX3_addLinkset 96 = .ok (.iinc 3 1, 3) := by decide +kernel
theorem dX3_addLinkset_99 : decode cX3_addLinkset 99 = .ok (.goto (-44), 3) := by decide +kernel
theorem dX3_addLinkset_102 : decode cX3_addLinkset 102 = .ok (.aload_n 0, 1) := by decide +kernel
theorem dX3_addLinkset_103 : decode cX3_addLinkset 103 = .ok (.getfield 7, 3) := by decide +kernel
theorem dX3_addLinkset_106 : decode cX3_addLinkset 106 = .ok (.iconst 0, 1) := by decide +kernel
theorem dX3_addLinkset_107 : decode cX3_addLinkset 107 = .ok (.dup2, 1) := by decide +kernel
theorem dX3_addLinkset_108 : decode cX3_addLinkset 108 = .ok (.iaload, 1) := by decide +kernel
theorem dX3_addLinkset_109 : decode cX3_addLinkset 109 = .ok (.iconst 1, 1) := by decide +kernel
theorem dX3_addLinkset_110 : decode cX3_addLinkset 110 = .ok (.iadd, 1) := by decide +kernel
theorem dX3_addLinkset_111 : decode cX3_addLinkset 111 = .ok (.iastore, 1) := by decide +kernel
theorem dX3_addLinkset_112 : decode cX3_addLinkset 112 = .ok (.iload_n 2, 1) := by decide +kernel
theorem dX3_addLinkset_113 : decode cX3_addLinkset 113 = .ok (.ireturn, 1) := by decide +kernel
theorem dX3_failLink_0 : decode cX3_failLink 0 = .ok (.aload_n 0, 1) := by decide +kernel
theorem dX3_failLink_1 : decode cX3_failLink 1 = .ok (.iload_n 1, 1) := by decide +kernel
theorem dX3_failLink_2 : decode cX3_failLink 2 = .ok (.iload_n 2, 1) := by decide +kernel
theorem dX3_failLink_3 : decode cX3_failLink 3 = .ok (.invokevirtual 60, 3) := by decide +kernel
theorem dX3_failLink_6 : decode cX3_failLink 6 = .ok (.ifCond .ne 10, 3) := by decide +kernel
theorem dX3_failLink_9 : decode cX3_failLink 9 = .ok (.aload_n 0, 1) := by decide +kernel
theorem dX3_failLink_10 : decode cX3_failLink 10 = .ok (.bipush (-2), 2) := by decide +kernel
theorem dX3_failLink_12 : decode cX3_failLink 12 = .ok (.invokevirtual 29, 3) := by decide +kernel
theorem dX3_failLink_15 : decode cX3_failLink 15 = .ok (.ireturn, 1) := by decide +kernel
theorem dX3_failLink_16 : decode cX3_failLink 16 = .ok (.iconst 4, 1) := by decide +kernel
theorem dX3_failLink_17 : decode cX3_failLink 17 = .ok (.iload_n 1, 1) := by decide +kernel
theorem dX3_failLink_18 : decode cX3_failLink 18 = .ok (.imul, 1) := by decide +kernel
theorem dX3_failLink_19 : decode cX3_failLink 19 = .ok (.iload_n 2, 1) := by decide +kernel
theorem dX3_failLink_20 : decode cX3_failLink 20 = .ok (.iadd, 1) := by decide +kernel
theorem dX3_failLink_21 : decode cX3_failLink 21 = .ok (.istore_n 3, 1) := by decide +kernel
theorem dX3_failLink_22 : decode cX3_failLink 22 = .ok (.aload_n 0, 1) := by decide +kernel
theorem dX3_failLink_23 : decode cX3_failLink 23 = .ok (.getfield 7, 3) := by decide +kernel
theorem dX3_failLink_26 : decode cX3_failLink 26 = .ok (.iconst 5, 1) := by decide +kernel
theorem dX3_failLink_27 : decode cX3_failLink 27 = .ok (.iload_n 3, 1) := by decide +kernel
theorem dX3_failLink_28 : decode cX3_failLink 28 = .ok (.iadd, 1) := by decide +kernel
theorem dX3_failLink_29 : decode cX3_failLink 29 = .ok (.iaload, 1) := by decide +kernel
theorem dX3_failLink_30 : decode cX3_failLink 30 = .ok (.ifCond .ne 10, 3) := by decide +kernel
theorem dX3_failLink_33 : decode cX3_failLink 33 = .ok (.aload_n 0, 1) := by decide +kernel
theorem dX3_failLink_34 : decode cX3_failLink 34 = .ok (.bipush (-3), 2) := by decide +kernel
theorem dX3_failLink_36 : decode cX3_failLink 36 = .ok (.invokevirtual 29, 3) := by decide +kernel
theorem dX3_failLink_39 : decode cX3_failLink 39 = .ok (.ireturn, 1) := by decide +kernel
theorem dX3_failLink_40 : decode cX3_failLink 40 = .ok (.aload_n 0, 1) := by decide +kernel
theorem dX3_failLink_41 : decode cX3_failLink 41 = .ok (.invokevirtual 57, 3) := by decide +kernel
theorem dX3_failLink_44 : decode cX3_failLink 44 = .ok (.aload_n 0, 1) := by decide +kernel
theorem dX3_failLink_45 : decode cX3_failLink 45 = .ok (.getfield 7, 3) := by decide +kernel
theorem dX3_failLink_48 : decode cX3_failLink 48 = .ok (.bipush 21, 2) := by decide +kernel
theorem dX3_failLink_50 : decode cX3_failLink 50 = .ok (.iload_n 3, 1) := by decide +kernel
theorem dX3_failLink_51 : decode cX3_failLink 51 = .ok (.iadd, 1) := by decide +kernel
theorem dX3_failLink_52 : decode cX3_failLink 52 = .ok (.iaload, 1) := by decide +kernel
theorem dX3_failLink_53 : decode cX3_failLink 53 = .ok (.istore 4, 2) := by decide +kernel
theorem dX3_failLink_55 : decode cX3_failLink 55 = .ok (.iconst 0, 1) := by decide +kernel
theorem dX3_failLink_56 : decode cX3_failLink 56 = .ok (.istore 5, 2) := by decide +kernel
theorem dX3_failLink_58 : decode cX3_failLink 58 = .ok (.iload 5, 2) := by decide +kernel
theorem dX3_failLink_60 : decode cX3_failLink 60 = .ok (.iload 4, 2) := by decide +kernel
theorem dX3_failLink_62 : decode cX3_failLink 62 = .ok (.if_icmp .ge 31, 3) := by decide +kernel
theorem dX3_failLink_65 : decode cX3_failLink 65 = .ok (.aload_n 0, 1) := by decide +kernel
theorem dX3_failLink_66 : decode cX3_failLink 66 = .ok (.getfield 22, 3) := by decide +kernel
theorem dX3_failLink_69 : decode cX3_failLink 69 = .ok (.iload 5, 2) := by decide +kernel
theorem dX3_failLink_71 : decode cX3_failLink 71 = .ok (.aload_n 0, 1) := by decide +kernel
theorem dX3_failLink_72 : decode cX3_failLink 72 = .ok (.getfield 7, 3) := by decide +kernel
theorem dX3_failLink_75 : decode cX3_failLink 75 = .ok (.bipush 37, 2) := by decide +kernel
theorem dX3_failLink_77 : decode cX3_failLink 77 = .ok (.bipush 10, 2) := by decide +kernel
theorem dX3_failLink_79 : decode cX3_failLink 79 = .ok (.iload_n 3, 1) := by decide +kernel
theorem dX3_failLink_80 : decode cX3_failLink 80 = .ok (.imul, 1) := by decide +kernel
theorem dX3_failLink_81 : decode cX3_failLink 81 = .ok (.iadd, 1) := by decide +kernel
theorem dX3_failLink_82 : decode cX3_failLink 82 = .ok (.iload 5, 2) := by decide +kernel
theorem dX3_failLink_84 : decode cX3_failLink 84 = .ok (.iadd, 1) := by decide +kernel
theorem dX3_failLink_85 : decode cX3_failLink 85 = .ok (.iaload, 1) := by decide +kernel
theorem dX3_failLink_86 : decode cX3_failLink 86 = .ok (.iastore, 1) := by decide +kernel
theorem dX3_failLink_87 : decode cX3_failLink 87 = .ok (.iinc 5 1, 3) := by decide +kernel
theorem dX3_failLink_90 : decode cX3_failLink 90 = .ok (.goto (-32), 3) := by decide +kernel
theorem dX3_failLink_93 : decode cX3_failLink 93 = .ok (.aload_n 0, 1) := by decide +kernel
theorem dX3_failLink_94 : decode cX3_failLink 94 = .ok (.getfield 7, 3) := by decide +kernel
theorem dX3_failLink_97 : decode cX3_failLink 97 = .ok (.iconst 5, 1) := by decide +kernel
theorem dX3_failLink_98 : decode cX3_failLink 98 = .ok (.iload_n 3, 1) := by decide +kernel
theorem dX3_failLink_99 : decode cX3_failLink 99 = .ok (.iadd, 1) := by decide +kernel
theorem dX3_failLink_100 : decode cX3_failLink 100 = .ok (.iconst 0, 1) := by decide +kernel
theorem dX3_failLink_101 : decode cX3_failLink 101 = .ok (.iastore, 1) := by decide +kernel
theorem dX3_failLink_102 : decode cX3_failLink 102 = .ok (.aload_n 0, 1) := by decide +kernel
theorem dX3_failLink_103 : decode cX3_failLink 103 = .ok (.getfield 7, 3) := by decide +kernel
theorem dX3_failLink_106 : decode cX3_failLink 106 = .ok (.bipush 21, 2) := by decide +kernel
theorem dX3_failLink_108 : decode cX3_failLink 108 = .ok (.iload_n 3, 1) := by decide +kernel
theorem dX3_failLink_109 : decode cX3_failLink 109 = .ok (.iadd, 1) := by decide +kernel
theorem dX3_failLink_110 : decode cX3_failLink 110 = .ok (.iconst 0, 1) := by decide +kernel
theorem dX3_failLink_111 : decode cX3_failLink 111 = .ok (.iastore, 1) := by decide +kernel
theorem dX3_failLink_112 : decode cX3_failLink 112 = .ok (.iconst 0, 1) := by decide +kernel
theorem dX3_failLink_113 : decode cX3_failLink 113 = .ok (.istore 5, 2) := by decide +kernel
theorem dX3_failLink_115 : decode cX3_failLink 115 = .ok (.iload 5, 2) := by decide +kernel
theorem dX3_failLink_117 : decode cX3_failLink 117 = .ok (.iload 4, 2) := by decide +kernel
theorem dX3_failLink_119 : decode cX3_failLink 119 = .ok (.if_icmp .ge 20, 3) := by decide +kernel
theorem dX3_failLink_122 : decode cX3_failLink 122 = .ok (.aload_n 0, 1) := by decide +kernel
theorem dX3_failLink_123 : decode cX3_failLink 123 = .ok (.aload_n 0, 1) := by decide +kernel
theorem dX3_failLink_124 : decode cX3_failLink 124 = .ok (.getfield 22, 3) := by decide +kernel
theorem dX3_failLink_127 : decode cX3_failLink 127 = .ok (.iload 5, 2) := by decide +kernel
theorem dX3_failLink_129 : decode cX3_failLink 129 = .ok (.iaload, 1) := by decide +kernel
theorem dX3_failLink_130 : decode cX3_failLink 130 = .ok (.invokevirtual 63, 3) := by decide +kernel
theorem dX3_failLink_133 : decode cX3_failLink 133 = .ok (.iinc 5 1, 3) := by decide +kernel
theorem dX3_failLink_136 : decode cX3_failLink 136 = .ok (.goto (-21), 3) := by decide +kernel
theorem dX3_failLink_139 : decode cX3_failLink 139 = .ok (.iload 4, 2) := by decide +kernel
theorem dX3_failLink_141 : decode cX3_failLink 141 = .ok (.ireturn, 1) := by decide +kernel
theorem dX3_restoreLink_0 : decode cX3_restoreLink 0 = .ok (.aload_n 0, 1) := by decide +kernel
theorem dX3_restoreLink_1 : decode cX3_restoreLink 1 = .ok (.iload_n 1, 1) := by decide +kernel
theorem dX3_restoreLink_2 : decode cX3_restoreLink 2 = .ok (.iload_n 2, 1) := by decide +kernel
theorem dX3_restoreLink_3 : decode cX3_restoreLink 3 = .ok (.invokevirtual 60, 3) := by decide +kernel
theorem dX3_restoreLink_6 : decode cX3_restoreLink 6 = .ok (.ifCond .ne 10, 3) := by decide +kernel
theorem dX3_restoreLink_9 : decode cX3_restoreLink 9 = .ok (.aload_n 0, 1) := by decide +kernel
theorem dX3_restoreLink_10 : decode cX3_restoreLink 10 = .ok (.bipush (-2), 2) := by decide +kernel
theorem dX3_restoreLink_12 : decode cX3_restoreLink 12 = .ok (.invokevirtual 29, 3) := by decide +kernel
theorem dX3_restoreLink_15 : decode cX3_restoreLink 15 = .ok (.ireturn, 1) := by decide +kernel
theorem dX3_restoreLink_16 : decode cX3_restoreLink 16 = .ok (.aload_n 0, 1) := by decide +kernel
theorem dX3_restoreLink_17 : decode cX3_restoreLink 17 = .ok (.getfield 7, 3) := by decide +kernel
theorem dX3_restoreLink_20 : decode cX3_restoreLink 20 = .ok (.iconst 5, 1) := by decide +kernel
theorem dX3_restoreLink_21 : decode cX3_restoreLink 21 = .ok (.iconst 4, 1) := by decide +kernel
theorem dX3_restoreLink_22 : decode cX3_restoreLink 22 = .ok (.iload_n 1, 1) := by decide +kernel
theorem dX3_restoreLink_23 : decode cX3_restoreLink 23 = .ok (.imul, 1) := by decide +kernel
theorem dX3_restoreLink_24 : decode cX3_restoreLink 24 = .ok (.iadd, 1) := by decide +kernel
theorem dX3_restoreLink_25 : decode cX3_restoreLink 25 = .ok (.iload_n 2, 1) := by decide +kernel
theorem dX3_restoreLink_26 : decode cX3_restoreLink 26 = .ok (.iadd, 1) := by decide +kernel
theorem dX3_restoreLink_27 : decode cX3_restoreLink 27 = .ok (.iaload, 1) := by decide +kernel
theorem dX3_restoreLink_28 : decode cX3_restoreLink 28 = .ok (.iconst 1, 1) := by decide +kernel
theorem dX3_restoreLink_29 : decode cX3_restoreLink 29 = .ok (.if_icmp .ne 10, 3) := by decide +kernel
theorem dX3_restoreLink_32 : decode cX3_restoreLink 32 = .ok (.aload_n 0, 1) := by decide +kernel
theorem dX3_restoreLink_33 : decode cX3_restoreLink 33 = .ok (.bipush (-3), 2) := by decide +kernel
theorem dX3_restoreLink_35 : decode cX3_restoreLink 35 = .ok (.invokevirtual 29, 3) := by decide +kernel
theorem dX3_restoreLink_38 : decode cX3_restoreLink 38 = .ok (.ireturn, 1) := by decide +kernel
theorem dX3_restoreLink_39 : decode cX3_restoreLink 39 = .ok (.aload_n 0, 1) := by decide +kernel
theorem dX3_restoreLink_40 : decode cX3_restoreLink 40 = .ok (.invokevirtual 57, 3) := by decide +kernel
theorem dX3_restoreLink_43 : decode cX3_restoreLink 43 = .ok (.aload_n 0, 1) := by decide +kernel
theorem dX3_restoreLink_44 : decode cX3_restoreLink 44 = .ok (.invokevirtual 67, 3) := by decide +kernel
theorem dX3_restoreLink_47 : decode cX3_restoreLink 47 = .ok (.aload_n 0, 1) := by decide +kernel
theorem dX3_restoreLink_48 : decode cX3_restoreLink 48 = .ok (.getfield 7, 3) := by decide +kernel
theorem dX3_restoreLink_51 : decode cX3_restoreLink 51 = .ok (.iconst 5, 1) := by decide +kernel
theorem dX3_restoreLink_52 : decode cX3_restoreLink 52 = .ok (.iconst 4, 1) := by decide +kernel
theorem dX3_restoreLink_53 : decode cX3_restoreLink 53 = .ok (.iload_n 1, 1) := by decide +kernel
theorem dX3_restoreLink_54 : decode cX3_restoreLink 54 = .ok (.imul, 1) := by decide +kernel
theorem dX3_restoreLink_55 : decode cX3_restoreLink 55 = .ok (.iadd, 1) := by decide +kernel
theorem dX3_restoreLink_56 : decode cX3_restoreLink 56 = .ok (.iload_n 2, 1) := by decide +kernel
theorem dX3_restoreLink_57 : decode cX3_restoreLink 57 = .ok (.iadd, 1) := by decide +kernel
theorem dX3_restoreLink_58 : decode cX3_restoreLink 58 = .ok (.iconst 1, 1) := by decide +kernel
theorem dX3_restoreLink_59 : decode cX3_restoreLink 59 = .ok (.iastore, 1) := by decide +kernel
theorem dX3_restoreLink_60 : decode cX3_restoreLink 60 = .ok (.aload_n 0, 1) := by decide +kernel
theorem dX3_restoreLink_61 : decode cX3_restoreLink 61 = .ok (.invokevirtual 70, 3) := by decide +kernel
theorem dX3_restoreLink_64 : decode cX3_restoreLink 64 = .ok (.ireturn, 1) := by decide +kernel
theorem dX3_delivers_0 : decode cX3_delivers 0 = .ok (.iload_n 1, 1) := by decide +kernel
theorem dX3_delivers_1 : decode cX3_delivers 1 = .ok (.sipush 128, 3) := by decide +kernel
theorem dX3_delivers_4 : decode cX3_delivers 4 = .ok (.irem, 1) := by decide +kernel
theorem dX3_delivers_5 : decode cX3_delivers 5 = .ok (.istore_n 2, 1) := by decide +kernel
theorem dX3_delivers_6 : decode cX3_delivers 6 = .ok (.aload_n 0, 1) := by decide +kernel
theorem dX3_delivers_7 : decode cX3_delivers 7 = .ok (.getfield 7, 3) := by decide +kernel
theorem dX3_delivers_10 : decode cX3_delivers 10 = .ok (.sipush 465, 3) := by decide +kernel
theorem dX3_delivers_13 : decode cX3_delivers 13 = .ok (.dup2, 1) := by decide +kernel
theorem dX3_delivers_14 : decode cX3_delivers 14 = .ok (.iaload, 1) := by decide +kernel
theorem dX3_delivers_15 : decode cX3_delivers 15 = .ok (.iconst 1, 1) := by decide +kernel
theorem dX3_delivers_16 : decode cX3_delivers 16 = .ok (.iadd, 1) := by decide +kernel
theorem dX3_delivers_17 : decode cX3_delivers 17 = .ok (.iastore, 1) := by decide +kernel
theorem dX3_delivers_18 : decode cX3_delivers 18 = .ok (.aload_n 0, 1) := by decide +kernel
theorem dX3_delivers_19 : decode cX3_delivers 19 = .ok (.getfield 7, 3) := by decide +kernel
theorem dX3_delivers_22 : decode cX3_delivers 22 = .ok (.sipush 466, 3) := by decide +kernel
theorem dX3_delivers_25 : decode cX3_delivers 25 = .ok (.dup2, 1) := by decide +kernel
theorem dX3_delivers_26 : decode cX3_delivers 26 = .ok (.iaload, 1) := by decide +kernel
theorem dX3_delivers_27 : decode cX3_delivers 27 = .ok (.aload_n 0, 1) := by decide +kernel
theorem dX3_delivers_28 : decode cX3_delivers 28 = .ok (.getfield 7, 3) := by decide +kernel
theorem dX3_delivers_31 : decode cX3_delivers 31 = .ok (.sipush 366, 3) := by decide +kernel
theorem dX3_delivers_34 : decode cX3_delivers 34 = .ok (.iload_n 2, 1) := by decide +kernel
theorem dX3_delivers_35 : decode cX3_delivers 35 = .ok (.iadd, 1) := by decide +kernel
theorem dX3_delivers_36 : decode cX3_delivers 36 = .ok (.iaload, 1) := by decide +kernel
theorem dX3_delivers_37 : decode cX3_delivers 37 = .ok (.iload_n 1, 1) := by decide +kernel
theorem dX3_delivers_38 : decode cX3_delivers 38 = .ok (.if_icmp .le 7, 3) := by decide +kernel
theorem dX3_delivers_41 : decode cX3_delivers 41 = .ok (.iconst 1, 1) := by decide +kernel
theorem dX3_delivers_42 : decode cX3_delivers 42 = .ok (.goto 4, 3) := by decide +kernel
theorem dX3_delivers_45 : decode cX3_delivers 45 = .ok (.iconst 0, 1) := by decide +kernel
theorem dX3_delivers_46 : decode cX3_delivers 46 = .ok (.iadd, 1) := by decide +kernel
theorem dX3_delivers_47 : decode cX3_delivers 47 = .ok (.iastore, 1) := by decide +kernel
theorem dX3_delivers_48 : decode cX3_delivers 48 = .ok (.aload_n 0, 1) := by decide +kernel
theorem dX3_delivers_49 : decode cX3_delivers 49 = .ok (.getfield 7, 3) := by decide +kernel
theorem dX3_delivers_52 : decode cX3_delivers 52 = .ok (.sipush 366, 3) := by decide +kernel
theorem dX3_delivers_55 : decode cX3_delivers 55 = .ok (.iload_n 2, 1) := by decide +kernel
theorem dX3_delivers_56 : decode cX3_delivers 56 = .ok (.iadd, 1) := by decide +kernel
theorem dX3_delivers_57 : decode cX3_delivers 57 = .ok (.aload_n 0, 1) := by decide +kernel
theorem dX3_delivers_58 : decode cX3_delivers 58 = .ok (.getfield 7, 3) := by decide +kernel
theorem dX3_delivers_61 : decode cX3_delivers 61 = .ok (.sipush 366, 3) := by decide +kernel
theorem dX3_delivers_64 : decode cX3_delivers 64 = .ok (.iload_n 2, 1) := by decide +kernel
theorem dX3_delivers_65 : decode cX3_delivers 65 = .ok (.iadd, 1) := by decide +kernel
theorem dX3_delivers_66 : decode cX3_delivers 66 = .ok (.iaload, 1) := by decide +kernel
theorem dX3_delivers_67 : decode cX3_delivers 67 = .ok (.iload_n 1, 1) := by decide +kernel
theorem dX3_delivers_68 : decode cX3_delivers 68 = .ok (.if_icmp .le 16, 3) := by decide +kernel
theorem dX3_delivers_71 : decode cX3_delivers 71 = .ok (.aload_n 0, 1) := by decide +kernel
theorem dX3_delivers_72 : decode cX3_delivers 72 = .ok (.getfield 7, 3) := by decide +kernel
theorem dX3_delivers_75 : decode cX3_delivers 75 = .ok (.sipush 366, 3) := by decide +kernel
theorem dX3_delivers_78 : decode cX3_delivers 78 = .ok (.iload_n 2, 1) := by decide +kernel
theorem dX3_delivers_79 : decode cX3_delivers 79 = .ok (.iadd, 1) := by decide +kernel
theorem dX3_delivers_80 : decode cX3_delivers 80 = .ok (.iaload, 1) := by decide +kernel
theorem dX3_delivers_81 : decode cX3_delivers 81 = .ok (.goto 4, 3) := by decide +kernel
theorem dX3_delivers_84 : decode cX3_delivers 84 = .ok (.iload_n 1, 1) := by decide +kernel
theorem dX3_delivers_85 : decode cX3_delivers 85 = .ok (.iastore, 1) := by decide +kernel
theorem dX3_delivers_86 : decode cX3_delivers 86 = .ok (.return_, 1) := by decide +kernel
theorem dX3_acknowledge_0 : decode cX3_acknowledge 0 = .ok (.aload_n 0, 1) := by decide +kernel
theorem dX3_acknowledge_1 : decode cX3_acknowledge 1 = .ok (.iload_n 1, 1) := by decide +kernel
theorem dX3_acknowledge_2 : decode cX3_acknowledge 2 = .ok (.iload_n 2, 1) := by decide +kernel
theorem dX3_acknowledge_3 : decode cX3_acknowledge 3 = .ok (.invokevirtual 60, 3) := by decide +kernel
theorem dX3_acknowledge_6 : decode cX3_acknowledge 6 = .ok (.ifCond .eq 13, 3) := by decide +kernel
theorem dX3_acknowledge_9 : decode cX3_acknowledge 9 = .ok (.iload_n 3, 1) := by decide +kernel
theorem dX3_acknowledge_10 : decode cX3_acknowledge 10 = .ok (.iconst 1, 1) := by decide +kernel
theorem dX3_acknowledge_11 : decode cX3_acknowledge 11 = .ok (.bipush 10, 2) := by decide +kernel
theorem dX3_acknowledge_13 : decode cX3_acknowledge 13 = .ok (.invokestatic 33, 3) := by decide +kernel
theorem dX3_acknowledge_16 : decode cX3_acknowledge 16 = .ok (.ifCond .ne 10, 3) := by decide +kernel
theorem dX3_acknowledge_19 : decode cX3_acknowledge 19 = .ok (.aload_n 0, 1) := by decide +kernel
theorem dX3_acknowledge_20 : decode cX3_acknowledge 20 = .ok (.bipush (-2), 2) := by decide +kernel
theorem dX3_acknowledge_22 : decode cX3_acknowledge 22 = .ok (.invokevirtual 29, 3) := by decide +kernel
theorem dX3_acknowledge_25 : decode cX3_acknowledge 25 = .ok (.ireturn, 1) := by decide +kernel
theorem dX3_acknowledge_26 : decode cX3_acknowledge 26 = .ok (.aload_n 0, 1) := by decide +kernel
theorem dX3_acknowledge_27 : decode cX3_acknowledge 27 = .ok (.invokevirtual 57, 3) := by decide +kernel
theorem dX3_acknowledge_30 : decode cX3_acknowledge 30 = .ok (.iconst 4, 1) := by decide +kernel
theorem dX3_acknowledge_31 : decode cX3_acknowledge 31 = .ok (.iload_n 1, 1) := by decide +kernel
theorem dX3_acknowledge_32 : decode cX3_acknowledge 32 = .ok (.imul, 1) := by decide +kernel
theorem dX3_acknowledge_33 : decode cX3_acknowledge 33 = .ok (.iload_n 2, 1) := by decide +kernel
theorem dX3_acknowledge_34 : decode cX3_acknowledge 34 = .ok (.iadd, 1) := by decide +kernel
theorem dX3_acknowledge_35 : decode cX3_acknowledge 35 = .ok (.istore 4, 2) := by decide +kernel
theorem dX3_acknowledge_37 : decode cX3_acknowledge 37 = .ok (.aload_n 0, 1) := by decide +kernel
theorem dX3_acknowledge_38 : decode cX3_acknowledge 38 = .ok (.getfield 7, 3) := by decide +kernel
theorem dX3_acknowledge_41 : decode cX3_acknowledge 41 = .ok (.bipush 21, 2) := by decide +kernel
theorem dX3_acknowledge_43 : decode cX3_acknowledge 43 = .ok (.iload 4, 2) := by decide +kernel
theorem dX3_acknowledge_45 : decode cX3_acknowledge 45 = .ok (.iadd, 1) := by decide +kernel
theorem dX3_acknowledge_46 : decode cX3_acknowledge 46 = .ok (.iaload, 1) := by decide +kernel
theorem dX3_acknowledge_47 : decode cX3_acknowledge 47 = .ok (.istore 5, 2) := by decide +kernel
theorem dX3_acknowledge_49 : decode cX3_acknowledge 49 = .ok (.iload 5, 2) := by decide +kernel
theorem dX3_acknowledge_51 : decode cX3_acknowledge 51 = .ok (.iload_n 3, 1) := by decide +kernel
theorem dX3_acknowledge_52 : decode cX3_acknowledge 52 = .ok (.if_icmp .ge 8, 3) := by decide +kernel
theorem dX3_acknowledge_55 : decode cX3_acknowledge 55 = .ok (.iload 5, 2) := by decide +kernel
theorem dX3_acknowledge_57 : decode cX3_acknowledge 57 = .ok (.goto 4, 3) := by decide +kernel
theorem dX3_acknowledge_60 : decode cX3_acknowledge 60 = .ok (.iload_n 3, 1) := by decide +kernel
theorem dX3_acknowledge_61 : decode cX3_acknowledge 61 = .ok (.istore 6, 2) := by decide +kernel
theorem dX3_acknowledge_63 : decode cX3_acknowledge 63 = .ok (.iconst 0, 1) := by decide +kernel
theorem dX3_acknowledge_64 : decode cX3_acknowledge 64 = .ok (.istore 7, 2) := by decide +kernel
theorem dX3_acknowledge_66 : decode cX3_acknowledge 66 = .ok (.iload 7, 2) := by decide +kernel
theorem dX3_acknowledge_68 : decode cX3_acknowledge 68 = .ok (.iload 6, 2) := by decide +kernel
theorem dX3_acknowledge_70 : decode cX3_acknowledge 70 = .ok (.if_icmp .ge 29, 3) := by decide +kernel
theorem dX3_acknowledge_73 : decode cX3_acknowledge 73 = .ok (.aload_n 0, 1) := by decide +kernel
theorem dX3_acknowledge_74 : decode cX3_acknowledge 74 = .ok (.aload_n 0, 1) := by decide +kernel
theorem dX3_acknowledge_75 : decode cX3_acknowledge 75 = .ok (.getfield 7, 3) := by decide +kernel
theorem dX3_acknowledge_78 : decode cX3_acknowledge 78 = .ok (.bipush 37, 2) := by decide +kernel
theorem dX3_acknowledge_80 : decode cX3_acknowledge 80 = .ok (.bipush 10, 2) := by decide +kernel
theorem dX3_acknowledge_82 : decode cX3_acknowledge 82 = .ok (.iload 4, 2) := by decide +kernel
theorem dX3_acknowledge_84 : decode cX3_acknowledge 84 = .ok (.imul, 1) := by decide +kernel
theorem dX3_acknowledge_85 : decode cX3_acknowledge 85 = .ok (.iadd, 1) := by decide +kernel
theorem dX3_acknowledge_86 : decode cX3_acknowledge 86 = .ok (.iload 7, 2) := by decide +kernel
theorem dX3_acknowledge_88 : decode cX3_acknowledge 88 = .ok (.iadd, 1) := by decide +kernel
theorem dX3_acknowledge_89 : decode cX3_acknowledge 89 = .ok (.iaload, 1) := by decide +kernel
theorem dX3_acknowledge_90 : decode cX3_acknowledge 90 = .ok (.invokevirtual 74, 3) := by decide +kernel
theorem dX3_acknowledge_93 : decode cX3_acknowledge 93 = .ok (.iinc 7 1, 3) := by decide +kernel
theorem dX3_acknowledge_96 : decode cX3_acknowledge 96 = .ok (.goto (-30), 3) := by decide +kernel
theorem dX3_acknowledge_99 : decode cX3_acknowledge 99 = .ok (.iload 6, 2) := by decide +kernel
theorem dX3_acknowledge_101 : decode cX3_acknowledge 101 = .ok (.istore 7, 2) := by decide +kernel
theorem dX3_acknowledge_103 : decode cX3_acknowledge 103 = .ok (.iload 7, 2) := by decide +kernel
theorem dX3_acknowledge_105 : decode cX3_acknowledge 105 = .ok (.iload 5, 2) := by decide +kernel
theorem dX3_acknowledge_107 : decode cX3_acknowledge 107 = .ok (.if_icmp .ge 44, 3) := by decide +kernel
theorem dX3_acknowledge_110 : decode cX3_acknowledge 110 = .ok (.aload_n 0, 1) := by decide +kernel
theorem dX3_acknowledge_111 : decode cX3_acknowledge 111 = .ok (.getfield 7, 3) := by decide +kernel
theorem dX3_acknowledge_114 : decode cX3_acknowledge 114 = .ok (.bipush 37, 2) := by decide +kernel
theorem dX3_acknowledge_116 : decode cX3_acknowledge 116 = .ok (.bipush 10, 2) := by decide +kernel
theorem dX3_acknowledge_118 : decode cX3_acknowledge 118 = .ok (.iload 4, 2) := by decide +kernel
theorem dX3_acknowledge_120 : decode cX3_acknowledge 120 = .ok (.imul, 1) := by decide +kernel
theorem dX3_acknowledge_121 : decode cX3_acknowledge 121 = .ok (.iadd, 1) := by decide +kernel
theorem dX3_acknowledge_122 : decode cX3_acknowledge 122 = .ok (.iload 7, 2) := by decide +kernel
theorem dX3_acknowledge_124 : decode cX3_acknowledge 124 = .ok (.iadd, 1) := by decide +kernel
theorem dX3_acknowledge_125 : decode cX3_acknowledge 125 = .ok (.iload 6, 2) := by decide +kernel
theorem dX3_acknowledge_127 : decode cX3_acknowledge 127 = .ok (.isub, 1) := by decide +kernel
theorem dX3_acknowledge_128 : decode cX3_acknowledge 128 = .ok (.aload_n 0, 1) := by decide +kernel
theorem dX3_acknowledge_129 : decode cX3_acknowledge 129 = .ok (.getfield 7, 3) := by decide +kernel
theorem dX3_acknowledge_132 : decode cX3_acknowledge 132 = .ok (.bipush 37, 2) := by decide +kernel
theorem dX3_acknowledge_134 : decode cX3_acknowledge 134 = .ok (.bipush 10, 2) := by decide +kernel
theorem dX3_acknowledge_136 : decode cX3_acknowledge 136 = .ok (.iload 4, 2) := by decide +kernel
theorem dX3_acknowledge_138 : decode cX3_acknowledge 138 = .ok (.imul, 1) := by decide +kernel
theorem dX3_acknowledge_139 : decode cX3_acknowledge 139 = .ok (.iadd, 1) := by decide +kernel
theorem dX3_acknowledge_140 : decode cX3_acknowledge 140 = .ok (.iload 7, 2) := by decide +kernel
theorem dX3_acknowledge_142 : decode cX3_acknowledge 142 = .ok (.iadd, 1) := by decide +kernel
theorem dX3_acknowledge_143 : decode cX3_acknowledge 143 = .ok (.iaload, 1) := by decide +kernel
theorem dX3_acknowledge_144 : decode cX3_acknowledge 144 = .ok (.iastore, 1) := by decide +kernel
theorem dX3_acknowledge_145 : decode cX3_acknowledge 145 = .ok (.iinc 7 1, 3) := by decide +kernel
theorem dX3_acknowledge_148 : decode cX3_acknowledge 148 = .ok (.goto (-45), 3) := by decide +kernel
theorem dX3_acknowledge_151 : decode cX3_acknowledge 151 = .ok (.aload_n 0, 1) := by decide +kernel
theorem dX3_acknowledge_152 : decode cX3_acknowledge 152 = .ok (.getfield 7, 3) := by decide +kernel
theorem dX3_acknowledge_155 : decode cX3_acknowledge 155 = .ok (.bipush 21, 2) := by decide +kernel
theorem dX3_acknowledge_157 : decode cX3_acknowledge 157 = .ok (.iload 4, 2) := by decide +kernel
theorem dX3_acknowledge_159 : decode cX3_acknowledge 159 = .ok (.iadd, 1) := by decide +kernel
theorem dX3_acknowledge_160 : decode cX3_acknowledge 160 = .ok (.dup2, 1) := by decide +kernel
theorem dX3_acknowledge_161 : decode cX3_acknowledge 161 = .ok (.iaload, 1) := by decide +kernel
theorem dX3_acknowledge_162 : decode cX3_acknowledge 162 = .ok (.iload 6, 2) := by decide +kernel
theorem dX3_acknowledge_164 : decode cX3_acknowledge 164 = .ok (.isub, 1) := by decide +kernel
theorem dX3_acknowledge_165 : decode cX3_acknowledge 165 = .ok (.iastore, 1) := by decide +kernel
theorem dX3_acknowledge_166 : decode cX3_acknowledge 166 = .ok (.iload 6, 2) := by decide +kernel
theorem dX3_acknowledge_168 : decode cX3_acknowledge 168 = .ok (.ireturn, 1) := by decide +kernel
theorem dX3_queueLength_0 : decode cX3_queueLength 0 = .ok (.aload_n 0, 1) := by decide +kernel
theorem dX3_queueLength_1 : decode cX3_queueLength 1 = .ok (.iload_n 1, 1) := by decide +kernel
theorem dX3_queueLength_2 : decode cX3_queueLength 2 = .ok (.iload_n 2, 1) := by decide +kernel
theorem dX3_queueLength_3 : decode cX3_queueLength 3 = .ok (.invokevirtual 60, 3) := by decide +kernel
theorem dX3_queueLength_6 : decode cX3_queueLength 6 = .ok (.ifCond .eq 19, 3) := by decide +kernel
theorem dX3_queueLength_9 : decode cX3_queueLength 9 = .ok (.aload_n 0, 1) := by decide +kernel
theorem dX3_queueLength_10 : decode cX3_queueLength 10 = .ok (.getfield 7, 3) := by decide +kernel
theorem dX3_queueLength_13 : decode cX3_queueLength 13 = .ok (.bipush 21, 2) := by decide +kernel
theorem dX3_queueLength_15 : decode cX3_queueLength 15 = .ok (.iconst 4, 1) := by decide +kernel
theorem dX3_queueLength_16 : decode cX3_queueLength 16 = .ok (.iload_n 1, 1) := by decide +kernel
theorem dX3_queueLength_17 : decode cX3_queueLength 17 = .ok (.imul, 1) := by decide +kernel
theorem dX3_queueLength_18 : decode cX3_queueLength 18 = .ok (.iadd, 1) := by decide +kernel
theorem dX3_queueLength_19 : decode cX3_queueLength 19 = .ok (.iload_n 2, 1) := by decide +kernel
theorem dX3_queueLength_20 : decode cX3_queueLength 20 = .ok (.iadd, 1) := by decide +kernel
theorem dX3_queueLength_21 : decode cX3_queueLength 21 = .ok (.iaload, 1) := by decide +kernel
theorem dX3_queueLength_22 : decode cX3_queueLength 22 = .ok (.goto 9, 3) := by decide +kernel
theorem dX3_queueLength_25 : decode cX3_queueLength 25 = .ok (.aload_n 0, 1) := by decide +kernel
theorem dX3_queueLength_26 : decode cX3_queueLength 26 = .ok (.bipush (-2), 2) := by decide +kernel
theorem dX3_queueLength_28 : decode cX3_queueLength 28 = .ok (.invokevirtual 29, 3) := by decide +kernel
theorem dX3_queueLength_31 : decode cX3_queueLength 31 = .ok (.ireturn, 1) := by decide +kernel
theorem dX3_queued_0 : decode cX3_queued 0 = .ok (.aload_n 0, 1) := by decide +kernel
theorem dX3_queued_1 : decode cX3_queued 1 = .ok (.iload_n 1, 1) := by decide +kernel
theorem dX3_queued_2 : decode cX3_queued 2 = .ok (.iload_n 2, 1) := by decide +kernel
theorem dX3_queued_3 : decode cX3_queued 3 = .ok (.invokevirtual 60, 3) := by decide +kernel
theorem dX3_queued_6 : decode cX3_queued 6 = .ok (.ifCond .eq 7, 3) := by decide +kernel
theorem dX3_queued_9 : decode cX3_queued 9 = .ok (.iload_n 3, 1) := by decide +kernel
theorem dX3_queued_10 : decode cX3_queued 10 = .ok (.ifCond .ge 10, 3) := by decide +kernel
theorem dX3_queued_13 : decode cX3_queued 13 = .ok (.aload_n 0, 1) := by decide +kernel
theorem dX3_queued_14 : decode cX3_queued 14 = .ok (.bipush (-2), 2) := by decide +kernel
theorem dX3_queued_16 : decode cX3_queued 16 = .ok (.invokevirtual 29, 3) := by decide +kernel
theorem dX3_queued_19 : decode cX3_queued 19 = .ok (.ireturn, 1) := by decide +kernel
theorem dX3_queued_20 : decode cX3_queued 20 = .ok (.iconst 4, 1) := by decide +kernel
theorem dX3_queued_21 : decode cX3_queued 21 = .ok (.iload_n 1, 1) := by decide +kernel
theorem dX3_queued_22 : decode cX3_queued 22 = .ok (.imul, 1) := by decide +kernel
theorem dX3_queued_23 : decode cX3_queued 23 = .ok (.iload_n 2, 1) := by decide +kernel
theorem dX3_queued_24 : decode cX3_queued 24 = .ok (.iadd, 1) := by decide +kernel
theorem dX3_queued_25 : decode cX3_queued 25 = .ok (.istore 4, 2) := by decide +kernel
theorem dX3_queued_27 : decode cX3_queued 27 = .ok (.iload_n 3, 1) := by decide +kernel
theorem dX3_queued_28 : decode cX3_queued 28 = .ok (.aload_n 0, 1) := by decide +kernel
theorem dX3_queued_29 : decode cX3_queued 29 = .ok (.getfield 7, 3) := by decide +kernel
theorem dX3_queued_32 : decode cX3_queued 32 = .ok (.bipush 21, 2) := by decide +kernel
theorem dX3_queued_34 : decode cX3_queued 34 = .ok (.iload 4, 2) := by decide +kernel
theorem dX3_queued_36 : decode cX3_queued 36 = .ok (.iadd, 1) := by decide +kernel
theorem dX3_queued_37 : decode cX3_queued 37 = .ok (.iaload, 1) := by decide +kernel
theorem dX3_queued_38 : decode cX3_queued 38 = .ok (.if_icmp .ge 25, 3) := by decide +kernel
theorem dX3_queued_41 : decode cX3_queued 41 = .ok (.aload_n 0, 1) := by decide +kernel
theorem dX3_queued_42 : decode cX3_queued 42 = .ok (.getfield 7, 3) := by decide +kernel
theorem dX3_queued_45 : decode cX3_queued 45 = .ok (.bipush 37, 2) := by decide +kernel
theorem dX3_queued_47 : decode cX3_queued 47 = .ok (.bipush 10, 2) := by decide +kernel
theorem dX3_queued_49 : decode cX3_queued 49 = .ok (.iload 4, 2) := by decide +kernel
theorem dX3_queued_51 : decode cX3_queued 51 = .ok (.imul, 1) := by decide +kernel
theorem dX3_queued_52 : decode cX3_queued 52 = .ok (.iadd, 1) := by decide +kernel
theorem dX3_queued_53 : decode cX3_queued 53 = .ok (.iload_n 3, 1) := by decide +kernel
theorem dX3_queued_54 : decode cX3_queued 54 = .ok (.iadd, 1) := by decide +kernel
theorem dX3_queued_55 : decode cX3_queued 55 = .ok (.iaload, 1) := by decide +kernel
theorem dX3_queued_56 : decode cX3_queued 56 = .ok (.sipush 128, 3) := by decide +kernel
theorem dX3_queued_59 : decode cX3_queued 59 = .ok (.idiv, 1) := by decide +kernel
theorem dX3_queued_60 : decode cX3_queued 60 = .ok (.goto 4, 3) := by decide +kernel
theorem dX3_queued_63 : decode cX3_queued 63 = .ok (.iconst (-1), 1) := by decide +kernel
theorem dX3_queued_64 : decode cX3_queued 64 = .ok (.ireturn, 1) := by decide +kernel
theorem dX3_congestion_0 : decode cX3_congestion 0 = .ok (.aload_n 0, 1) := by decide +kernel
theorem dX3_congestion_1 : decode cX3_congestion 1 = .ok (.iload_n 1, 1) := by decide +kernel
theorem dX3_congestion_2 : decode cX3_congestion 2 = .ok (.iload_n 2, 1) := by decide +kernel
theorem dX3_congestion_3 : decode cX3_congestion 3 = .ok (.invokevirtual 60, 3) := by decide +kernel
theorem dX3_congestion_6 : decode cX3_congestion 6 = .ok (.ifCond .eq 15, 3) := by decide +kernel
theorem dX3_congestion_9 : decode cX3_congestion 9 = .ok (.aload_n 0, 1) := by decide +kernel
theorem dX3_congestion_10 : decode cX3_congestion 10 = .ok (.iconst 4, 1) := by decide +kernel
theorem dX3_congestion_11 : decode cX3_congestion 11 = .ok (.iload_n 1, 1) := by decide +kernel
theorem dX3_congestion_12 : decode cX3_congestion 12 = .ok (.imul, 1) := by decide +kernel
theorem dX3_congestion_13 : decode cX3_congestion 13 = .ok (.iload_n 2, 1) := by decide +kernel
theorem dX3_congestion_14 : decode cX3_congestion 14 = .ok (.iadd, 1) := by decide +kernel
theorem dX3_congestion_15 : decode cX3_congestion 15 = .ok (.invokevirtual 77, 3) := by decide +kernel
theorem dX3_congestion_18 : decode cX3_congestion 18 = .ok (.goto 9, 3) := by decide +kernel
theorem dX3_congestion_21 : decode cX3_congestion 21 = .ok (.aload_n 0, 1) := by decide +kernel
theorem dX3_congestion_22 : decode cX3_congestion 22 = .ok (.bipush (-2), 2) := by decide +kernel
theorem dX3_congestion_24 : decode cX3_congestion 24 = .ok (.invokevirtual 29, 3) := by decide +kernel
theorem dX3_congestion_27 : decode cX3_congestion 27 = .ok (.ireturn, 1) := by decide +kernel
theorem dX3_isActive_0 : decode cX3_isActive 0 = .ok (.aload_n 0, 1) := by decide +kernel
theorem dX3_isActive_1 : decode cX3_isActive 1 = .ok (.iload_n 1, 1) := by decide +kernel
theorem dX3_isActive_2 : decode cX3_isActive 2 = .ok (.iload_n 2, 1) := by decide +kernel
theorem dX3_isActive_3 : decode cX3_isActive 3 = .ok (.invokevirtual 60, 3) := by decide +kernel
theorem dX3_isActive_6 : decode cX3_isActive 6 = .ok (.ifCond .eq 18, 3) := by decide +kernel
theorem dX3_isActive_9 : decode cX3_isActive 9 = .ok (.aload_n 0, 1) := by decide +kernel
theorem dX3_isActive_10 : decode cX3_isActive 10 = .ok (.getfield 7, 3) := by decide +kernel
theorem dX3_isActive_13 : decode cX3_isActive 13 = .ok (.iconst 5, 1) := by decide +kernel
theorem dX3_isActive_14 : decode cX3_isActive 14 = .ok (.iconst 4, 1) := by decide +kernel
theorem dX3_isActive_15 : decode cX3_isActive 15 = .ok (.iload_n 1, 1) := by decide +kernel
theorem dX3_isActive_16 : decode cX3_isActive 16 = .ok (.imul, 1) := by decide +kernel
theorem dX3_isActive_17 : decode cX3_isActive 17 = .ok (.iadd, 1) := by decide +kernel
theorem dX3_isActive_18 : decode cX3_isActive 18 = .ok (.iload_n 2, 1) := by decide +kernel
theorem dX3_isActive_19 : decode cX3_isActive 19 = .ok (.iadd, 1) := by decide +kernel
theorem dX3_isActive_20 : decode cX3_isActive 20 = .ok (.iaload, 1) := by decide +kernel
theorem dX3_isActive_21 : decode cX3_isActive 21 = .ok (.goto 9, 3) := by decide +kernel
theorem dX3_isActive_24 : decode cX3_isActive 24 = .ok (.aload_n 0, 1) := by decide +kernel
theorem dX3_isActive_25 : decode cX3_isActive 25 = .ok (.bipush (-2), 2) := by decide +kernel
theorem dX3_isActive_27 : decode cX3_isActive 27 = .ok (.invokevirtual 29, 3) := by decide +kernel
theorem dX3_isActive_30 : decode cX3_isActive 30 = .ok (.ireturn, 1) := by decide +kernel
theorem dX3_isDestination_0 : decode cX3_isDestination 0 = .ok (.iload_n 0, 1) := by decide +kernel
theorem dX3_isDestination_1 : decode cX3_isDestination 1 = .ok (.iconst 0, 1) := by decide +kernel
theorem dX3_isDestination_2 : decode cX3_isDestination 2 = .ok (.iconst 5, 1) := by decide +kernel
theorem dX3_isDestination_3 : decode cX3_isDestination 3 = .ok (.invokestatic 33, 3) := by decide +kernel
theorem dX3_isDestination_6 : decode cX3_isDestination 6 = .ok (.ireturn, 1) := by decide +kernel
theorem dX3_addRoute_0 : decode cX3_addRoute 0 = .ok (.iload_n 1, 1) := by decide +kernel
theorem dX3_addRoute_1 : decode cX3_addRoute 1 = .ok (.invokestatic 80, 3) := by decide +kernel
theorem dX3_addRoute_4 : decode cX3_addRoute 4 = .ok (.ifCond .eq 20, 3) := by decide +kernel
theorem dX3_addRoute_7 : decode cX3_addRoute 7 = .ok (.aload_n 0, 1) := by decide +kernel
theorem dX3_addRoute_8 : decode cX3_addRoute 8 = .ok (.iload_n 2, 1) := by decide +kernel
theorem dX3_addRoute_9 : decode cX3_addRoute 9 = .ok (.invokevirtual 37, 3) := by decide +kernel
theorem dX3_addRoute_12 : decode cX3_addRoute 12 = .ok (.ifCond .eq 12, 3) := by decide +kernel
theorem dX3_addRoute_15 : decode cX3_addRoute 15 = .ok (.iload_n 3, 1) := by decide +kernel
theorem dX3_addRoute_16 : decode cX3_addRoute 16 = .ok (.iconst 0, 1) := by decide +kernel
theorem dX3_addRoute_17 : decode cX3_addRoute 17 = .ok (.iconst 2, 1) := by decide +kernel
theorem dX3_addRoute_18 : decode cX3_addRoute 18 = .ok (.invokestatic 33, 3) := by decide +kernel
theorem dX3_addRoute_21 : decode cX3_addRoute 21 = .ok (.ifCond .ne 10, 3) := by decide +kernel
theorem dX3_addRoute_24 : decode cX3_addRoute 24 = .ok (.aload_n 0, 1) := by decide +kernel
theorem dX3_addRoute_25 : decode cX3_addRoute 25 = .ok (.bipush (-2), 2) := by decide +kernel
theorem dX3_addRoute_27 : decode cX3_addRoute 27 = .ok (.invokevirtual 29, 3) := by decide +kernel
theorem dX3_addRoute_30 : decode cX3_addRoute 30 = .ok (.ireturn, 1) := by decide +kernel
theorem dX3_addRoute_31 : decode cX3_addRoute 31 = .ok (.iconst 4, 1) := by decide +kernel
theorem dX3_addRoute_32 : decode cX3_addRoute 32 = .ok (.iload_n 1, 1) := by decide +kernel
theorem dX3_addRoute_33 : decode cX3_addRoute 33 = .ok (.imul, 1) := by decide +kernel
theorem dX3_addRoute_34 : decode cX3_addRoute 34 = .ok (.iload_n 2, 1) := by decide +kernel
theorem dX3_addRoute_35 : decode cX3_addRoute 35 = .ok (.iadd, 1) := by decide +kernel
theorem dX3_addRoute_36 : decode cX3_addRoute 36 = .ok (.istore 4, 2) := by decide +kernel
theorem dX3_addRoute_38 : decode cX3_addRoute 38 = .ok (.aload_n 0, 1) := by decide +kernel
theorem dX3_addRoute_39 : decode cX3_addRoute 39 = .ok (.getfield 7, 3) := by decide +kernel
theorem dX3_addRoute_42 : decode cX3_addRoute 42 = .ok (.sipush 197, 3) := by decide +kernel
theorem dX3_addRoute_45 : decode cX3_addRoute 45 = .ok (.iload 4, 2) := by decide +kernel
theorem dX3_addRoute_47 : decode cX3_addRoute 47 = .ok (.iadd, 1) := by decide +kernel
theorem dX3_addRoute_48 : decode cX3_addRoute 48 = .ok (.iaload, 1) := by decide +kernel
theorem dX3_addRoute_49 : decode cX3_addRoute 49 = .ok (.iconst (-1), 1) := by decide +kernel
theorem dX3_addRoute_50 : decode cX3_addRoute 50 = .ok (.if_icmp .eq 10, 3) := by decide +kernel
theorem dX3_addRoute_53 : decode cX3_addRoute 53 = .ok (.aload_n 0, 1) := by decide +kernel
theorem dX3_addRoute_54 : decode cX3_addRoute 54 = .ok (.bipush (-3), 2) := by decide +kernel
theorem dX3_addRoute_56 : decode cX3_addRoute 56 = .ok (.invokevirtual 29, 3) := by decide +kernel
theorem dX3_addRoute_59 : decode cX3_addRoute 59 = .ok (.ireturn, 1) := by decide +kernel
theorem dX3_addRoute_60 : decode cX3_addRoute 60 = .ok (.aload_n 0, 1) := by decide +kernel
theorem dX3_addRoute_61 : decode cX3_addRoute 61 = .ok (.invokevirtual 57, 3) := by decide +kernel
theorem dX3_addRoute_64 : decode cX3_addRoute 64 = .ok (.aload_n 0, 1) := by decide +kernel
theorem dX3_addRoute_65 : decode cX3_addRoute 65 = .ok (.invokevirtual 67, 3) := by decide +kernel
theorem dX3_addRoute_68 : decode cX3_addRoute 68 = .ok (.aload_n 0, 1) := by decide +kernel
theorem dX3_addRoute_69 : decode cX3_addRoute 69 = .ok (.getfield 7, 3) := by decide +kernel
theorem dX3_addRoute_72 : decode cX3_addRoute 72 = .ok (.sipush 197, 3) := by decide +kernel
theorem dX3_addRoute_75 : decode cX3_addRoute 75 = .ok (.iload 4, 2) := by decide +kernel
theorem dX3_addRoute_77 : decode cX3_addRoute 77 = .ok (.iadd, 1) := by decide +kernel
theorem dX3_addRoute_78 : decode cX3_addRoute 78 = .ok (.iconst 0, 1) := by decide +kernel
theorem dX3_addRoute_79 : decode cX3_addRoute 79 = .ok (.iastore, 1) := by decide +kernel
theorem dX3_addRoute_80 : decode cX3_addRoute 80 = .ok (.aload_n 0, 1) := by decide +kernel
theorem dX3_addRoute_81 : decode cX3_addRoute 81 = .ok (.getfield 7, 3) := by decide +kernel
theorem dX3_addRoute_84 : decode cX3_addRoute 84 = .ok (.sipush 221, 3) := by decide +kernel
theorem dX3_addRoute_87 : decode cX3_addRoute 87 = .ok (.iload 4, 2) := by decide +kernel
theorem dX3_addRoute_89 : decode cX3_addRoute 89 = .ok (.iadd, 1) := by decide +kernel
theorem dX3_addRoute_90 : decode cX3_addRoute 90 = .ok (.iload_n 3, 1) := by decide +kernel
theorem dX3_addRoute_91 : decode cX3_addRoute 91 = .ok (.iastore, 1) := by decide +kernel
theorem dX3_addRoute_92 : decode cX3_addRoute 92 = .ok (.aload_n 0, 1) := by decide +kernel
theorem dX3_addRoute_93 : decode cX3_addRoute 93 = .ok (.invokevirtual 70, 3) := by decide +kernel
theorem dX3_addRoute_96 : decode cX3_addRoute 96 = .ok (.ireturn, 1) := by decide +kernel
theorem dX3_removeRoute_0 : decode cX3_removeRoute 0 = .ok (.iload_n 1, 1) := by decide +kernel
theorem dX3_removeRoute_1 : decode cX3_removeRoute 1 = .ok (.invokestatic 80, 3) := by decide +kernel
theorem dX3_removeRoute_4 : decode cX3_removeRoute 4 = .ok (.ifCond .eq 11, 3) := by decide +kernel
theorem dX3_removeRoute_7 : decode cX3_removeRoute 7 = .ok (.aload_n 0, 1) := by decide +kernel
theorem dX3_removeRoute_8 : decode cX3_removeRoute 8 = .ok (.iload_n 2, 1) := by decide +kernel
theorem dX3_removeRoute_9 : decode cX3_removeRoute 9 = .ok (.invokevirtual 37, 3) := by decide +kernel
theorem dX3_removeRoute_12 : decode cX3_removeRoute 12 = .ok (.ifCond .ne 10, 3) := by decide +kernel
theorem dX3_removeRoute_15 : decode cX3_removeRoute 15 = .ok (.aload_n 0, 1) := by decide +kernel
theorem dX3_removeRoute_16 : decode cX3_removeRoute 16 = .ok (.bipush (-2), 2) := by decide +kernel
theorem dX3_removeRoute_18 : decode cX3_removeRoute 18 = .ok (.invokevirtual 29, 3) := by decide +kernel
theorem dX3_removeRoute_21 : decode cX3_removeRoute 21 = .ok (.ireturn, 1) := by decide +kernel
theorem dX3_removeRoute_22 : decode cX3_removeRoute 22 = .ok (.iconst 4, 1) := by decide +kernel
theorem dX3_removeRoute_23 : decode cX3_removeRoute 23 = .ok (.iload_n 1, 1) := by decide +kernel
theorem dX3_removeRoute_24 : decode cX3_removeRoute 24 = .ok (.imul, 1) := by decide +kernel
theorem dX3_removeRoute_25 : decode cX3_removeRoute 25 = .ok (.iload_n 2, 1) := by decide +kernel
theorem dX3_removeRoute_26 : decode cX3_removeRoute 26 = .ok (.iadd, 1) := by decide +kernel
theorem dX3_removeRoute_27 : decode cX3_removeRoute 27 = .ok (.istore_n 3, 1) := by decide +kernel
theorem dX3_removeRoute_28 : decode cX3_removeRoute 28 = .ok (.aload_n 0, 1) := by decide +kernel
theorem dX3_removeRoute_29 : decode cX3_removeRoute 29 = .ok (.getfield 7, 3) := by decide +kernel
theorem dX3_removeRoute_32 : decode cX3_removeRoute 32 = .ok (.sipush 197, 3) := by decide +kernel
theorem dX3_removeRoute_35 : decode cX3_removeRoute 35 = .ok (.iload_n 3, 1) := by decide +kernel
theorem dX3_removeRoute_36 : decode cX3_removeRoute 36 = .ok (.iadd, 1) := by decide +kernel
theorem dX3_removeRoute_37 : decode cX3_removeRoute 37 = .ok (.iaload, 1) := by decide +kernel
theorem dX3_removeRoute_38 : decode cX3_removeRoute 38 = .ok (.istore 4, 2) := by decide +kernel
theorem dX3_removeRoute_40 : decode cX3_removeRoute 40 = .ok (.iload 4, 2) := by decide +kernel
theorem dX3_removeRoute_42 : decode cX3_removeRoute 42 = .ok (.iconst (-1), 1) := by decide +kernel
theorem dX3_removeRoute_43 : decode cX3_removeRoute 43 = .ok (.if_icmp .ne 10, 3) := by decide +kernel
theorem dX3_removeRoute_46 : decode cX3_removeRoute 46 = .ok (.aload_n 0, 1) := by decide +kernel
theorem dX3_removeRoute_47 : decode cX3_removeRoute 47 = .ok (.bipush (-3), 2) := by decide +kernel
theorem dX3_removeRoute_49 : decode cX3_removeRoute 49 = .ok (.invokevirtual 29, 3) := by decide +kernel
theorem dX3_removeRoute_52 : decode cX3_removeRoute 52 = .ok (.ireturn, 1) := by decide +kernel
theorem dX3_removeRoute_53 : decode cX3_removeRoute 53 = .ok (.aload_n 0, 1) := by decide +kernel
theorem dX3_removeRoute_54 : decode cX3_removeRoute 54 = .ok (.invokevirtual 57, 3) := by decide +kernel
theorem dX3_removeRoute_57 : decode cX3_removeRoute 57 = .ok (.aload_n 0, 1) := by decide +kernel
theorem dX3_removeRoute_58 : decode cX3_removeRoute 58 = .ok (.getfield 7, 3) := by decide +kernel
theorem dX3_removeRoute_61 : decode cX3_removeRoute 61 = .ok (.sipush 197, 3) := by decide +kernel
theorem dX3_removeRoute_64 : decode cX3_removeRoute 64 = .ok (.iload_n 3, 1) := by decide +kernel
theorem dX3_removeRoute_65 : decode cX3_removeRoute 65 = .ok (.iadd, 1) := by decide +kernel
theorem dX3_removeRoute_66 : decode cX3_removeRoute 66 = .ok (.iconst (-1), 1) := by decide +kernel
theorem dX3_removeRoute_67 : decode cX3_removeRoute 67 = .ok (.iastore, 1) := by decide +kernel
theorem dX3_removeRoute_68 : decode cX3_removeRoute 68 = .ok (.aload_n 0, 1) := by decide +kernel
theorem dX3_removeRoute_69 : decode cX3_removeRoute 69 = .ok (.getfield 7, 3) := by decide +kernel
theorem dX3_removeRoute_72 : decode cX3_removeRoute 72 = .ok (.sipush 221, 3) := by decide +kernel
theorem dX3_removeRoute_75 : decode cX3_removeRoute 75 = .ok (.iload_n 3, 1) := by decide +kernel
theorem dX3_removeRoute_76 : decode cX3_removeRoute 76 = .ok (.iadd, 1) := by decide +kernel
theorem dX3_removeRoute_77 : decode cX3_removeRoute 77 = .ok (.iconst (-1), 1) := by decide +kernel
theorem dX3_removeRoute_78 : decode cX3_removeRoute 78 = .ok (.iastore, 1) := by decide +kernel
theorem dX3_removeRoute_79 : decode cX3_removeRoute 79 = .ok (.iload 4, 2) := by decide +kernel
theorem dX3_removeRoute_81 : decode cX3_removeRoute 81 = .ok (.ireturn, 1) := by decide +kernel
theorem dX3_setRouteState_0 : decode cX3_setRouteState 0 = .ok (.iload_n 1, 1) := by decide +kernel
theorem dX3_setRouteState_1 : decode cX3_setRouteState 1 = .ok (.invokestatic 80, 3) := by decide +kernel
theorem dX3_setRouteState_4 : decode cX3_setRouteState 4 = .ok (.ifCond .eq 20, 3) := by decide +kernel
theorem dX3_setRouteState_7 : decode cX3_setRouteState 7 = .ok (.aload_n 0, 1) := by decide +kernel
theorem dX3_setRouteState_8 : decode cX3_setRouteState 8 = .ok (.iload_n 2, 1) := by decide +kernel
theorem dX3_setRouteState_9 : decode cX3_setRouteState 9 = .ok (.invokevirtual 37, 3) := by decide +kernel
theorem dX3_setRouteState_12 : decode cX3_setRouteState 12 = .ok (.ifCond .eq 12, 3) := by decide +kernel
theorem dX3_setRouteState_15 : decode cX3_setRouteState 15 = .ok (.iload_n 3, 1) := by decide +kernel
theorem dX3_setRouteState_16 : decode cX3_setRouteState 16 = .ok (.iconst 0, 1) := by decide +kernel
theorem dX3_setRouteState_17 : decode cX3_setRouteState 17 = .ok (.iconst 2, 1) := by decide +kernel
theorem dX3_setRouteState_18 : decode cX3_setRouteState 18 = .ok (.invokestatic 33, 3) := by decide +kernel
theorem dX3_setRouteState_21 : decode cX3_setRouteState 21 = .ok (.ifCond .ne 10, 3) := by decide +kernel
theorem dX3_setRouteState_24 : decode cX3_setRouteState 24 = .ok (.aload_n 0, 1) := by decide +kernel
theorem dX3_setRouteState_25 : decode cX3_setRouteState 25 = .ok (.bipush (-2), 2) := by decide +kernel
theorem dX3_setRouteState_27 : decode cX3_setRouteState 27 = .ok (.invokevirtual 29, 3) := by decide +kernel
theorem dX3_setRouteState_30 : decode cX3_setRouteState 30 = .ok (.ireturn, 1) := by decide +kernel
theorem dX3_setRouteState_31 : decode cX3_setRouteState 31 = .ok (.iconst 4, 1) := by decide +kernel
theorem dX3_setRouteState_32 : decode cX3_setRouteState 32 = .ok (.iload_n 1, 1) := by decide +kernel
theorem dX3_setRouteState_33 : decode cX3_setRouteState 33 = .ok (.imul, 1) := by decide +kernel
theorem dX3_setRouteState_34 : decode cX3_setRouteState 34 = .ok (.iload_n 2, 1) := by decide +kernel
theorem dX3_setRouteState_35 : decode cX3_setRouteState 35 = .ok (.iadd, 1) := by decide +kernel
theorem dX3_setRouteState_36 : decode cX3_setRouteState 36 = .ok (.istore 4, 2) := by decide +kernel
theorem dX3_setRouteState_38 : decode cX3_setRouteState 38 = .ok (.aload_n 0, 1) := by decide +kernel
theorem dX3_setRouteState_39 : decode cX3_setRouteState 39 = .ok (.getfield 7, 3) := by decide +kernel
theorem dX3_setRouteState_42 : decode cX3_setRouteState 42 = .ok (.sipush 197, 3) := by decide +kernel
theorem dX3_setRouteState_45 : decode cX3_setRouteState 45 = .ok (.iload 4, 2) := by decide +kernel
theorem dX3_setRouteState_47 : decode cX3_setRouteState 47 = .ok (.iadd, 1) := by decide +kernel
theorem dX3_setRouteState_48 : decode cX3_setRouteState 48 = .ok (.iaload, 1) := by decide +kernel
theorem dX3_setRouteState_49 : decode cX3_setRouteState 49 = .ok (.istore 5, 2) := by decide +kernel
theorem dX3_setRouteState_51 : decode cX3_setRouteState 51 = .ok (.iload 5, 2) := by decide +kernel
theorem dX3_setRouteState_53 : decode cX3_setRouteState 53 = .ok (.iconst (-1), 1) := by decide +kernel
theorem dX3_setRouteState_54 : decode cX3_setRouteState 54 = .ok (.if_icmp .ne 10, 3) := by decide +kernel
theorem dX3_setRouteState_57 : decode cX3_setRouteState 57 = .ok (.aload_n 0, 1) := by decide +kernel
theorem dX3_setRouteState_58 : decode cX3_setRouteState 58 = .ok (.bipush (-3), 2) := by decide +kernel
theorem dX3_setRouteState_60 : decode cX3_setRouteState 60 = .ok (.invokevirtual 29, 3) := by decide +kernel
theorem dX3_setRouteState_63 : decode cX3_setRouteState 63 = .ok (.ireturn, 1) := by decide +kernel
theorem dX3_setRouteState_64 : decode cX3_setRouteState 64 = .ok (.aload_n 0, 1) := by decide +kernel
theorem dX3_setRouteState_65 : decode cX3_setRouteState 65 = .ok (.invokevirtual 57, 3) := by decide +kernel
theorem dX3_setRouteState_68 : decode cX3_setRouteState 68 = .ok (.aload_n 0, 1) := by decide +kernel
theorem dX3_setRouteState_69 : decode cX3_setRouteState 69 = .ok (.invokevirtual 67, 3) := by decide +kernel
theorem dX3_setRouteState_72 : decode cX3_setRouteState 72 = .ok (.aload_n 0, 1) := by decide +kernel
theorem dX3_setRouteState_73 : decode cX3_setRouteState 73 = .ok (.getfield 7, 3) := by decide +kernel
theorem dX3_setRouteState_76 : decode cX3_setRouteState 76 = .ok (.sipush 197, 3) := by decide +kernel
theorem dX3_setRouteState_79 : decode cX3_setRouteState 79 = .ok (.iload 4, 2) := by decide +kernel
theorem dX3_setRouteState_81 : decode cX3_setRouteState 81 = .ok (.iadd, 1) := by decide +kernel
theorem dX3_setRouteState_82 : decode cX3_setRouteState 82 = .ok (.iload_n 3, 1) := by decide +kernel
theorem dX3_setRouteState_83 : decode cX3_setRouteState 83 = .ok (.iastore, 1) := by decide +kernel
theorem dX3_setRouteState_84 : decode cX3_setRouteState 84 = .ok (.iload_n 3, 1) := by decide +kernel
theorem dX3_setRouteState_85 : decode cX3_setRouteState 85 = .ok (.iload 5, 2) := by decide +kernel
theorem dX3_setRouteState_87 : decode cX3_setRouteState 87 = .ok (.if_icmp .ge 8, 3) := by decide +kernel
theorem dX3_setRouteState_90 : decode cX3_setRouteState 90 = .ok (.aload_n 0, 1) := by decide +kernel
theorem dX3_setRouteState_91 : decode cX3_setRouteState 91 = .ok (.invokevirtual 70, 3) := by decide +kernel
theorem dX3_setRouteState_94 : decode cX3_setRouteState 94 = .ok (.pop, 1) := by decide +kernel
theorem dX3_setRouteState_95 : decode cX3_setRouteState 95 = .ok (.iload 5, 2) := by decide +kernel
theorem dX3_setRouteState_97 : decode cX3_setRouteState 97 = .ok (.ireturn, 1) := by decide +kernel
theorem dX3_routeState_0 : decode cX3_routeState 0 = .ok (.iload_n 1, 1) := by decide +kernel
theorem dX3_routeState_1 : decode cX3_routeState 1 = .ok (.invokestatic 80, 3) := by decide +kernel
theorem dX3_routeState_4 : decode cX3_routeState 4 = .ok (.ifCond .eq 28, 3) := by decide +kernel
theorem dX3_routeState_7 : decode cX3_routeState 7 = .ok (.aload_n 0, 1) := by decide +kernel
theorem dX3_routeState_8 : decode cX3_routeState 8 = .ok (.iload_n 2, 1) := by decide +kernel
theorem dX3_routeState_9 : decode cX3_routeState 9 = .ok (.invokevirtual 37, 3) := by decide +kernel
theorem dX3_routeState_12 : decode cX3_routeState 12 = .ok (.ifCond .eq 20, 3) := by decide +kernel
theorem dX3_routeState_15 : decode cX3_routeState 15 = .ok (.aload_n 0, 1) := by decide +kernel
theorem dX3_routeState_16 : decode cX3_routeState 16 = .ok (.getfield 7, 3) := by decide +kernel
theorem dX3_routeState_19 : decode cX3_routeState 19 = .ok (.sipush 197, 3) := by decide +kernel
theorem dX3_routeState_22 : decode cX3_routeState 22 = .ok (.iconst 4, 1) := by decide +kernel
theorem dX3_routeState_23 : decode cX3_routeState 23 = .ok (.iload_n 1, 1) := by decide +kernel
theorem dX3_routeState_24 : decode cX3_routeState 24 = .ok (.imul, 1) := by decide +kernel
theorem dX3_routeState_25 : decode cX3_routeState 25 = .ok (.iadd, 1) := by decide +kernel
theorem dX3_routeState_26 : decode cX3_routeState 26 = .ok (.iload_n 2, 1) := by decide +kernel
theorem dX3_routeState_27 : decode cX3_routeState 27 = .ok (.iadd, 1) := by decide +kernel
theorem dX3_routeState_28 : decode cX3_routeState 28 = .ok (.iaload, 1) := by decide +kernel
theorem dX3_routeState_29 : decode cX3_routeState 29 = .ok (.goto 9, 3) := by decide +kernel
theorem dX3_routeState_32 : decode cX3_routeState 32 = .ok (.aload_n 0, 1) := by decide +kernel
theorem dX3_routeState_33 : decode cX3_routeState 33 = .ok (.bipush (-2), 2) := by decide +kernel
theorem dX3_routeState_35 : decode cX3_routeState 35 = .ok (.invokevirtual 29, 3) := by decide +kernel
theorem dX3_routeState_38 : decode cX3_routeState 38 = .ok (.ireturn, 1) := by decide +kernel
theorem dX3_currentRoutes_0 : decode cX3_currentRoutes 0 = .ok (.iload_n 1, 1) := by decide +kernel
theorem dX3_currentRoutes_1 : decode cX3_currentRoutes 1 = .ok (.invokestatic 80, 3) := by decide +kernel
theorem dX3_currentRoutes_4 : decode cX3_currentRoutes 4 = .ok (.ifCond .eq 11, 3) := by decide +kernel
theorem dX3_currentRoutes_7 : decode cX3_currentRoutes 7 = .ok (.aload_n 0, 1) := by decide +kernel
theorem dX3_currentRoutes_8 : decode cX3_currentRoutes 8 = .ok (.iload_n 1, 1) := by decide +kernel
theorem dX3_currentRoutes_9 : decode cX3_currentRoutes 9 = .ok (.invokevirtual 48, 3) := by decide +kernel
theorem dX3_currentRoutes_12 : decode cX3_currentRoutes 12 = .ok (.goto 9, 3) := by decide +kernel
theorem dX3_currentRoutes_15 : decode cX3_currentRoutes 15 = .ok (.aload_n 0, 1) := by decide +kernel
theorem dX3_currentRoutes_16 : decode cX3_currentRoutes 16 = .ok (.bipush (-2), 2) := by decide +kernel
theorem dX3_currentRoutes_18 : decode cX3_currentRoutes 18 = .ok (.invokevirtual 29, 3) := by decide +kernel
theorem dX3_currentRoutes_21 : decode cX3_currentRoutes 21 = .ok (.ireturn, 1) := by decide +kernel
theorem dX3_isStream_0 : decode cX3_isStream 0 = .ok (.iload_n 0, 1) := by decide +kernel
theorem dX3_isStream_1 : decode cX3_isStream 1 = .ok (.invokestatic 80, 3) := by decide +kernel
theorem dX3_isStream_4 : decode cX3_isStream 4 = .ok (.ifCond .eq 17, 3) := by decide +kernel
theorem dX3_isStream_7 : decode cX3_isStream 7 = .ok (.iload_n 1, 1) := by decide +kernel
theorem dX3_isStream_8 : decode cX3_isStream 8 = .ok (.iconst 0, 1) := by decide +kernel
theorem dX3_isStream_9 : decode cX3_isStream 9 = .ok (.bipush 15, 2) := by decide +kernel
theorem dX3_isStream_11 : decode cX3_isStream 11 = .ok (.invokestatic 33, 3) := by decide +kernel
theorem dX3_isStream_14 : decode cX3_isStream 14 = .ok (.ifCond .eq 7, 3) := by decide +kernel
theorem dX3_isStream_17 : decode cX3_isStream 17 = .ok (.iconst 1, 1) := by decide +kernel
theorem dX3_isStream_18 : decode cX3_isStream 18 = .ok (.goto 4, 3) := by decide +kernel
theorem dX3_isStream_21 : decode cX3_isStream 21 = .ok (.iconst 0, 1) := by decide +kernel
theorem dX3_isStream_22 : decode cX3_isStream 22 = .ok (.ireturn, 1) := by decide +kernel
theorem dX3_currentLink_0 : decode cX3_currentLink 0 = .ok (.iload_n 1, 1) := by decide +kernel
theorem dX3_currentLink_1 : decode cX3_currentLink 1 = .ok (.iload_n 2, 1) := by decide +kernel
theorem dX3_currentLink_2 : decode cX3_currentLink 2 = .ok (.invokestatic 83, 3) := by decide +kernel
theorem dX3_currentLink_5 : decode cX3_currentLink 5 = .ok (.ifCond .eq 16, 3) := by decide +kernel
theorem dX3_currentLink_8 : decode cX3_currentLink 8 = .ok (.aload_n 0, 1) := by decide +kernel
theorem dX3_currentLink_9 : decode cX3_currentLink 9 = .ok (.bipush 16, 2) := by decide +kernel
theorem dX3_currentLink_11 : decode cX3_currentLink 11 = .ok (.iload_n 1, 1) := by decide +kernel
theorem dX3_currentLink_12 : decode cX3_currentLink 12 = .ok (.imul, 1) := by decide +kernel
theorem dX3_currentLink_13 : decode cX3_currentLink 13 = .ok (.iload_n 2, 1) := by decide +kernel
theorem dX3_currentLink_14 : decode cX3_currentLink 14 = .ok (.iadd, 1) := by decide +kernel
theorem dX3_currentLink_15 : decode cX3_currentLink 15 = .ok (.invokevirtual 54, 3) := by decide +kernel
theorem dX3_currentLink_18 : decode cX3_currentLink 18 = .ok (.goto 9, 3) := by decide +kernel
theorem dX3_currentLink_21 : decode cX3_currentLink 21 = .ok (.aload_n 0, 1) := by decide +kernel
theorem dX3_currentLink_22 : decode cX3_currentLink 22 = .ok (.bipush (-2), 2) := by decide +kernel
theorem dX3_currentLink_24 : decode cX3_currentLink 24 = .ok (.invokevirtual 29, 3) := by decide +kernel
theorem dX3_currentLink_27 : decode cX3_currentLink 27 = .ok (.ireturn, 1) := by decide +kernel
theorem dX3_isCongested_0 : decode cX3_isCongested 0 = .ok (.aload_n 0, 1) := by decide +kernel
theorem dX3_isCongested_1 : decode cX3_isCongested 1 = .ok (.iload_n 1, 1) := by decide +kernel
theorem dX3_isCongested_2 : decode cX3_isCongested 2 = .ok (.invokevirtual 54, 3) := by decide +kernel
theorem dX3_isCongested_5 : decode cX3_isCongested 5 = .ok (.istore_n 3, 1) := by decide +kernel
theorem dX3_isCongested_6 : decode cX3_isCongested 6 = .ok (.iload_n 3, 1) := by decide +kernel
theorem dX3_isCongested_7 : decode cX3_isCongested 7 = .ok (.iconst (-1), 1) := by decide +kernel
theorem dX3_isCongested_8 : decode cX3_isCongested 8 = .ok (.if_icmp .eq 16, 3) := by decide +kernel
theorem dX3_isCongested_11 : decode cX3_isCongested 11 = .ok (.aload_n 0, 1) := by decide +kernel
theorem dX3_isCongested_12 : decode cX3_isCongested 12 = .ok (.iload_n 3, 1) := by decide +kernel
theorem dX3_isCongested_13 : decode cX3_isCongested 13 = .ok (.invokevirtual 77, 3) := by decide +kernel
theorem dX3_isCongested_16 : decode cX3_isCongested 16 = .ok (.iload_n 2, 1) := by decide +kernel
theorem dX3_isCongested_17 : decode cX3_isCongested 17 = .ok (.if_icmp .le 7, 3) := by decide +kernel
theorem dX3_isCongested_20 : decode cX3_isCongested 20 = .ok (.iconst 1, 1) := by decide +kernel
theorem dX3_isCongested_21 : decode cX3_isCongested 21 = .ok (.goto 4, 3) := by decide +kernel
theorem dX3_isCongested_24 : decode cX3_isCongested 24 = .ok (.iconst 0, 1) := by decide +kernel
theorem dX3_isCongested_25 : decode cX3_isCongested 25 = .ok (.ireturn, 1) := by decide +kernel
theorem dX3_send_0 : decode cX3_send 0 = .ok (.iload_n 1, 1) := by decide +kernel
theorem dX3_send_1 : decode cX3_send 1 = .ok (.iload_n 2, 1) := by decide +kernel
theorem dX3_send_2 : decode cX3_send 2 = .ok (.invokestatic 83, 3) := by decide +kernel
theorem dX3_send_5 : decode cX3_send 5 = .ok (.ifCond .eq 12, 3) := by decide +kernel
theorem dX3_send_8 : decode cX3_send 8 = .ok (.iload_n 3, 1) := by decide +kernel
theorem dX3_send_9 : decode cX3_send 9 = .ok (.iconst 0, 1) := by decide +kernel
theorem dX3_send_10 : decode cX3_send 10 = .ok (.iconst 3, 1) := by decide +kernel
theorem dX3_send_11 : decode cX3_send 11 = .ok (.invokestatic 33, 3) := by decide +kernel
theorem dX3_send_14 : decode cX3_send 14 = .ok (.ifCond .ne 10, 3) := by decide +kernel
theorem dX3_send_17 : decode cX3_send 17 = .ok (.aload_n 0, 1) := by decide +kernel
theorem dX3_send_18 : decode cX3_send 18 = .ok (.bipush (-2), 2) := by decide +kernel
theorem dX3_send_20 : decode cX3_send 20 = .ok (.invokevirtual 29, 3) := by decide +kernel
theorem dX3_send_23 : decode cX3_send 23 = .ok (.ireturn, 1) := by decide +kernel
theorem dX3_send_24 : decode cX3_send 24 = .ok (.aload_n 0, 1) := by decide +kernel
theorem dX3_send_25 : decode cX3_send 25 = .ok (.invokevirtual 57, 3) := by decide +kernel
theorem dX3_send_28 : decode cX3_send 28 = .ok (.bipush 16, 2) := by decide +kernel
theorem dX3_send_30 : decode cX3_send 30 = .ok (.iload_n 1, 1) := by decide +kernel
theorem dX3_send_31 : decode cX3_send 31 = .ok (.imul, 1) := by decide +kernel
theorem dX3_send_32 : decode cX3_send 32 = .ok (.iload_n 2, 1) := by decide +kernel
theorem dX3_send_33 : decode cX3_send 33 = .ok (.iadd, 1) := by decide +kernel
theorem dX3_send_34 : decode cX3_send 34 = .ok (.istore 4, 2) := by decide +kernel
theorem dX3_send_36 : decode cX3_send 36 = .ok (.sipush 128, 3) := by decide +kernel
theorem dX3_send_39 : decode cX3_send 39 = .ok (.aload_n 0, 1) := by decide +kernel
theorem dX3_send_40 : decode cX3_send 40 = .ok (.getfield 7, 3) := by decide +kernel
theorem dX3_send_43 : decode cX3_send 43 = .ok (.sipush 464, 3) := by decide +kernel
theorem dX3_send_46 : decode cX3_send 46 = .ok (.iaload, 1) := by decide +kernel
theorem dX3_send_47 : decode cX3_send 47 = .ok (.imul, 1) := by decide +kernel
theorem dX3_send_48 : decode cX3_send 48 = .ok (.iload 4, 2) := by decide +kernel
theorem dX3_send_50 : decode cX3_send 50 = .ok (.iadd, 1) := by decide +kernel
theorem dX3_send_51 : decode cX3_send 51 = .ok (.istore 5, 2) := by decide +kernel
theorem dX3_send_53 : decode cX3_send 53 = .ok (.aload_n 0, 1) := by decide +kernel
theorem dX3_send_54 : decode cX3_send 54 = .ok (.getfield 7, 3) := by decide +kernel
theorem dX3_send_57 : decode cX3_send 57 = .ok (.sipush 245, 3) := by decide +kernel
theorem dX3_send_60 : decode cX3_send 60 = .ok (.iload 4, 2) := by decide +kernel
theorem dX3_send_62 : decode cX3_send 62 = .ok (.iadd, 1) := by decide +kernel
theorem dX3_send_63 : decode cX3_send 63 = .ok (.iaload, 1) := by decide +kernel
theorem dX3_send_64 : decode cX3_send 64 = .ok (.ifCond .le 65, 3) := by decide +kernel
theorem dX3_send_67 : decode cX3_send 67 = .ok (.aload_n 0, 1) := by decide +kernel
theorem dX3_send_68 : decode cX3_send 68 = .ok (.getfield 7, 3) := by decide +kernel
theorem dX3_send_71 : decode cX3_send 71 = .ok (.sipush 341, 3) := by decide +kernel
theorem dX3_send_74 : decode cX3_send 74 = .ok (.iaload, 1) := by decide +kernel
theorem dX3_send_75 : decode cX3_send 75 = .ok (.bipush 24, 2) := by decide +kernel
theorem dX3_send_77 : decode cX3_send 77 = .ok (.if_icmp .ne 18, 3) := by decide +kernel
theorem dX3_send_80 : decode cX3_send 80 = .ok (.aload_n 0, 1) := by decide +kernel
theorem dX3_send_81 : decode cX3_send 81 = .ok (.getfield 7, 3) := by decide +kernel
theorem dX3_send_84 : decode cX3_send 84 = .ok (.sipush 469, 3) := by decide +kernel
theorem dX3_send_87 : decode cX3_send 87 = .ok (.dup2, 1) := by decide +kernel
theorem dX3_send_88 : decode cX3_send 88 = .ok (.iaload, 1) := by decide +kernel
theorem dX3_send_89 : decode cX3_send 89 = .ok (.iconst 1, 1) := by decide +kernel
theorem dX3_send_90 : decode cX3_send 90 = .ok (.iadd, 1) := by decide +kernel
theorem dX3_send_91 : decode cX3_send 91 = .ok (.iastore, 1) := by decide +kernel
theorem dX3_send_92 : decode cX3_send 92 = .ok (.goto 68, 3) := by decide +kernel
theorem dX3_send_95 : decode cX3_send 95 = .ok (.aload_n 0, 1) := by decide +kernel
theorem dX3_send_96 : decode cX3_send 96 = .ok (.getfield 7, 3) := by decide +kernel
theorem dX3_send_99 : decode cX3_send 99 = .ok (.sipush 342, 3) := by decide +kernel
theorem dX3_send_102 : decode cX3_send 102 = .ok (.aload_n 0, 1) := by decide +kernel
theorem dX3_send_103 : decode cX3_send 103 = .ok (.getfield 7, 3) := by decide +kernel
theorem dX3_send_106 : decode cX3_send 106 = .ok (.sipush 341, 3) := by decide +kernel
theorem dX3_send_109 : decode cX3_send 109 = .ok (.iaload, 1) := by decide +kernel
theorem dX3_send_110 : decode cX3_send 110 = .ok (.iadd, 1) := by decide +kernel
theorem dX3_send_111 : decode cX3_send 111 = .ok (.iload 5, 2) := by decide +kernel
theorem dX3_send_113 : decode cX3_send 113 = .ok (.iastore, 1) := by decide +kernel
theorem dX3_send_114 : decode cX3_send 114 = .ok (.aload_n 0, 1) := by decide +kernel
theorem dX3_send_115 : decode cX3_send 115 = .ok (.getfield 7, 3) := by decide +kernel
theorem dX3_send_118 : decode cX3_send 118 = .ok (.sipush 341, 3) := by decide +kernel
theorem dX3_send_121 : decode cX3_send 121 = .ok (.dup2, 1) := by decide +kernel
theorem dX3_send_122 : decode cX3_send 122 = .ok (.iaload, 1) := by decide +kernel
theorem dX3_send_123 : decode cX3_send 123 = .ok (.iconst 1, 1) := by decide +kernel
theorem dX3_send_124 : decode cX3_send 124 = .ok (.iadd, 1) := by decide +kernel
theorem dX3_send_125 : decode cX3_send 125 = .ok (.iastore, 1) := by decide +kernel
theorem dX3_send_126 : decode cX3_send 126 = .ok (.goto 34, 3) := by decide +kernel
theorem dX3_send_129 : decode cX3_send 129 = .ok (.aload_n 0, 1) := by decide +kernel
theorem dX3_send_130 : decode cX3_send 130 = .ok (.iload 4, 2) := by decide +kernel
theorem dX3_send_132 : decode cX3_send 132 = .ok (.iload_n 3, 1) := by decide +kernel
theorem dX3_send_133 : decode cX3_send 133 = .ok (.invokevirtual 86, 3) := by decide +kernel
theorem dX3_send_136 : decode cX3_send 136 = .ok (.ifCond .eq 18, 3) := by decide +kernel
theorem dX3_send_139 : decode cX3_send 139 = .ok (.aload_n 0, 1) := by decide +kernel
theorem dX3_send_140 : decode cX3_send 140 = .ok (.getfield 7, 3) := by decide +kernel
theorem dX3_send_143 : decode cX3_send 143 = .ok (.sipush 468, 3) := by decide +kernel
theorem dX3_send_146 : decode cX3_send 146 = .ok (.dup2, 1) := by decide +kernel
theorem dX3_send_147 : decode cX3_send 147 = .ok (.iaload, 1) := by decide +kernel
theorem dX3_send_148 : decode cX3_send 148 = .ok (.iconst 1, 1) := by decide +kernel
theorem dX3_send_149 : decode cX3_send 149 = .ok (.iadd, 1) := by decide +kernel
theorem dX3_send_150 : decode cX3_send 150 = .ok (.iastore, 1) := by decide +kernel
theorem dX3_send_151 : decode cX3_send 151 = .ok (.goto 9, 3) := by decide +kernel
theorem dX3_send_154 : decode cX3_send 154 = .ok (.aload_n 0, 1) := by decide +kernel
theorem dX3_send_155 : decode cX3_send 155 = .ok (.iload 5, 2) := by decide +kernel
theorem dX3_send_157 : decode cX3_send 157 = .ok (.invokevirtual 63, 3) := by decide +kernel
theorem dX3_send_160 : decode cX3_send 160 = .ok (.aload_n 0, 1) := by decide +kernel
theorem dX3_send_161 : decode cX3_send 161 = .ok (.getfield 7, 3) := by decide +kernel
theorem dX3_send_164 : decode cX3_send 164 = .ok (.sipush 464, 3) := by decide +kernel
theorem dX3_send_167 : decode cX3_send 167 = .ok (.dup2, 1) := by decide +kernel
theorem dX3_send_168 : decode cX3_send 168 = .ok (.iaload, 1) := by decide +kernel
theorem dX3_send_169 : decode cX3_send 169 = .ok (.iconst 1, 1) := by decide +kernel
theorem dX3_send_170 : decode cX3_send 170 = .ok (.iadd, 1) := by decide +kernel
theorem dX3_send_171 : decode cX3_send 171 = .ok (.iastore, 1) := by decide +kernel
theorem dX3_send_172 : decode cX3_send 172 = .ok (.aload_n 0, 1) := by decide +kernel
theorem dX3_send_173 : decode cX3_send 173 = .ok (.getfield 7, 3) := by decide +kernel
theorem dX3_send_176 : decode cX3_send 176 = .ok (.sipush 464, 3) := by decide +kernel
theorem dX3_send_179 : decode cX3_send 179 = .ok (.iaload, 1) := by decide +kernel
theorem dX3_send_180 : decode cX3_send 180 = .ok (.iconst 1, 1) := by decide +kernel
theorem dX3_send_181 : decode cX3_send 181 = .ok (.isub, 1) := by decide +kernel
theorem dX3_send_182 : decode cX3_send 182 = .ok (.ireturn, 1) := by decide +kernel
theorem dX3_setHoldTime_0 : decode cX3_setHoldTime 0 = .ok (.iload_n 1, 1) := by decide +kernel
theorem dX3_setHoldTime_1 : decode cX3_setHoldTime 1 = .ok (.iconst 0, 1) := by decide +kernel
theorem dX3_setHoldTime_2 : decode cX3_setHoldTime 2 = .ok (.bipush 9, 2) := by decide +kernel
theorem dX3_setHoldTime_4 : decode cX3_setHoldTime 4 = .ok (.invokestatic 33, 3) := by decide +kernel
theorem dX3_setHoldTime_7 : decode cX3_setHoldTime 7 = .ok (.ifCond .ne 10, 3) := by decide +kernel
theorem dX3_setHoldTime_10 : decode cX3_setHoldTime 10 = .ok (.aload_n 0, 1) := by decide +kernel
theorem dX3_setHoldTime_11 : decode cX3_setHoldTime 11 = .ok (.bipush (-2), 2) := by decide +kernel
theorem dX3_setHoldTime_13 : decode cX3_setHoldTime 13 = .ok (.invokevirtual 29, 3) := by decide +kernel
theorem dX3_setHoldTime_16 : decode cX3_setHoldTime 16 = .ok (.ireturn, 1) := by decide +kernel
theorem dX3_setHoldTime_17 : decode cX3_setHoldTime 17 = .ok (.aload_n 0, 1) := by decide +kernel
theorem dX3_setHoldTime_18 : decode cX3_setHoldTime 18 = .ok (.invokevirtual 57, 3) := by decide +kernel
theorem dX3_setHoldTime_21 : decode cX3_setHoldTime 21 = .ok (.aload_n 0, 1) := by decide +kernel
theorem dX3_setHoldTime_22 : decode cX3_setHoldTime 22 = .ok (.getfield 7, 3) := by decide +kernel
theorem dX3_setHoldTime_25 : decode cX3_setHoldTime 25 = .ok (.sipush 463, 3) := by decide +kernel
theorem dX3_setHoldTime_28 : decode cX3_setHoldTime 28 = .ok (.iaload, 1) := by decide +kernel
theorem dX3_setHoldTime_29 : decode cX3_setHoldTime 29 = .ok (.istore_n 2, 1) := by decide +kernel
theorem dX3_setHoldTime_30 : decode cX3_setHoldTime 30 = .ok (.aload_n 0, 1) := by decide +kernel
theorem dX3_setHoldTime_31 : decode cX3_setHoldTime 31 = .ok (.getfield 7, 3) := by decide +kernel
theorem dX3_setHoldTime_34 : decode cX3_setHoldTime 34 = .ok (.sipush 463, 3) := by decide +kernel
theorem dX3_setHoldTime_37 : decode cX3_setHoldTime 37 = .ok (.iload_n 1, 1) := by decide +kernel
theorem dX3_setHoldTime_38 : decode cX3_setHoldTime 38 = .ok (.iastore, 1) := by decide +kernel
theorem dX3_setHoldTime_39 : decode cX3_setHoldTime 39 = .ok (.iload_n 2, 1) := by decide +kernel
theorem dX3_setHoldTime_40 : decode cX3_setHoldTime 40 = .ok (.ireturn, 1) := by decide +kernel
theorem dX3_tick_0 : decode cX3_tick 0 = .ok (.aload_n 0, 1) := by decide +kernel
theorem dX3_tick_1 : decode cX3_tick 1 = .ok (.invokevirtual 57, 3) := by decide +kernel
theorem dX3_tick_4 : decode cX3_tick 4 = .ok (.aload_n 0, 1) := by decide +kernel
theorem dX3_tick_5 : decode cX3_tick 5 = .ok (.getfield 7, 3) := by decide +kernel
theorem dX3_tick_8 : decode cX3_tick 8 = .ok (.sipush 462, 3) := by decide +kernel
theorem dX3_tick_11 : decode cX3_tick 11 = .ok (.dup2, 1) := by decide +kernel
theorem dX3_tick_12 : decode cX3_tick 12 = .ok (.iaload, 1) := by decide +kernel
theorem dX3_tick_13 : decode cX3_tick 13 = .ok (.iconst 1, 1) := by decide +kernel
theorem dX3_tick_14 : decode cX3_tick 14 = .ok (.iadd, 1) := by decide +kernel
theorem dX3_tick_15 : decode cX3_tick 15 = .ok (.iastore, 1) := by decide +kernel
theorem dX3_tick_16 : decode cX3_tick 16 = .ok (.iconst 0, 1) := by decide +kernel
theorem dX3_tick_17 : decode cX3_tick 17 = .ok (.istore_n 1, 1) := by decide +kernel
theorem dX3_tick_18 : decode cX3_tick 18 = .ok (.iload_n 1, 1) := by decide +kernel
theorem dX3_tick_19 : decode cX3_tick 19 = .ok (.bipush 96, 2) := by decide +kernel
theorem dX3_tick_21 : decode cX3_tick 21 = .ok (.if_icmp .ge 54, 3) := by decide +kernel
theorem dX3_tick_24 : decode cX3_tick 24 = .ok (.aload_n 0, 1) := by decide +kernel
theorem dX3_tick_25 : decode cX3_tick 25 = .ok (.getfield 7, 3) := by decide +kernel
theorem dX3_tick_28 : decode cX3_tick 28 = .ok (.sipush 245, 3) := by decide +kernel
theorem dX3_tick_31 : decode cX3_tick 31 = .ok (.iload_n 1, 1) := by decide +kernel
theorem dX3_tick_32 : decode cX3_tick 32 = .ok (.iadd, 1) := by decide +kernel
theorem dX3_tick_33 : decode cX3_tick 33 = .ok (.aload_n 0, 1) := by decide +kernel
theorem dX3_tick_34 : decode cX3_tick 34 = .ok (.getfield 7, 3) := by decide +kernel
theorem dX3_tick_37 : decode cX3_tick 37 = .ok (.sipush 245, 3) := by decide +kernel
theorem dX3_tick_40 : decode cX3_tick 40 = .ok (.iload_n 1, 1) := by decide +kernel
theorem dX3_tick_41 : decode cX3_tick 41 = .ok (.iadd, 1) := by decide +kernel
theorem dX3_tick_42 : decode cX3_tick 42 = .ok (.iaload, 1) := by decide +kernel
theorem dX3_tick_43 : decode cX3_tick 43 = .ok (.aload_n 0, 1) := by decide +kernel
theorem dX3_tick_44 : decode cX3_tick 44 = .ok (.getfield 7, 3) := by decide +kernel
theorem dX3_tick_47 : decode cX3_tick 47 = .ok (.sipush 462, 3) := by decide +kernel
theorem dX3_tick_50 : decode cX3_tick 50 = .ok (.iaload, 1) := by decide +kernel
theorem dX3_tick_51 : decode cX3_tick 51 = .ok (.if_icmp .le 16, 3) := by decide +kernel
theorem dX3_tick_54 : decode cX3_tick 54 = .ok (.aload_n 0, 1) := by decide +kernel
theorem dX3_tick_55 : decode cX3_tick 55 = .ok (.getfield 7, 3) := by decide +kernel
theorem dX3_tick_58 : decode cX3_tick 58 = .ok (.sipush 245, 3) := by decide +kernel
theorem dX3_tick_61 : decode cX3_tick 61 = .ok (.iload_n 1, 1) := by decide +kernel
theorem dX3_tick_62 : decode cX3_tick 62 = .ok (.iadd, 1) := by decide +kernel
theorem dX3_tick_63 : decode cX3_tick 63 = .ok (.iaload, 1) := by decide +kernel
theorem dX3_tick_64 : decode cX3_tick 64 = .ok (.goto 4, 3) := by decide +kernel
theorem dX3_tick_67 : decode cX3_tick 67 = .ok (.iconst 0, 1) := by decide +kernel
theorem dX3_tick_68 : decode cX3_tick 68 = .ok (.iastore, 1) := by decide +kernel
theorem dX3_tick_69 : decode cX3_tick 69 = .ok (.iinc 1 1, 3) := by decide +kernel
theorem dX3_tick_72 : decode cX3_tick 72 = .ok (.goto (-54), 3) := by decide +kernel
theorem dX3_tick_75 : decode cX3_tick 75 = .ok (.iconst 0, 1) := by decide +kernel
theorem dX3_tick_76 : decode cX3_tick 76 = .ok (.istore_n 1, 1) := by decide +kernel
theorem dX3_tick_77 : decode cX3_tick 77 = .ok (.iconst 0, 1) := by decide +kernel
theorem dX3_tick_78 : decode cX3_tick 78 = .ok (.istore_n 2, 1) := by decide +kernel
theorem dX3_tick_79 : decode cX3_tick 79 = .ok (.iconst 0, 1) := by decide +kernel
theorem dX3_tick_80 : decode cX3_tick 80 = .ok (.istore_n 3, 1) := by decide +kernel
theorem dX3_tick_81 : decode cX3_tick 81 = .ok (.iload_n 3, 1) := by decide +kernel
theorem dX3_tick_82 : decode cX3_tick 82 = .ok (.aload_n 0, 1) := by decide +kernel
theorem dX3_tick_83 : decode cX3_tick 83 = .ok (.getfield 7, 3) := by decide +kernel
theorem dX3_tick_86 : decode cX3_tick 86 = .ok (.sipush 341, 3) := by decide +kernel
theorem dX3_tick_89 : decode cX3_tick 89 = .ok (.iaload, 1) := by decide +kernel
theorem dX3_tick_90 : decode cX3_tick 90 = .ok (.if_icmp .ge 68, 3) := by decide +kernel
theorem dX3_tick_93 : decode cX3_tick 93 = .ok (.aload_n 0, 1) := by decide +kernel
theorem dX3_tick_94 : decode cX3_tick 94 = .ok (.getfield 7, 3) := by decide +kernel
theorem dX3_tick_97 : decode cX3_tick 97 = .ok (.sipush 342, 3) := by decide +kernel
theorem dX3_tick_100 : decode cX3_tick 100 = .ok (.iload_n 3, 1) := by decide +kernel
theorem dX3_tick_101 : decode cX3_tick 101 = .ok (.iadd, 1) := by decide +kernel
theorem dX3_tick_102 : decode cX3_tick 102 = .ok (.iaload, 1) := by decide +kernel
theorem dX3_tick_103 : decode cX3_tick 103 = .ok (.istore 4, 2) := by decide +kernel
theorem dX3_tick_105 : decode cX3_tick 105 = .ok (.aload_n 0, 1) := by decide +kernel
theorem dX3_tick_106 : decode cX3_tick 106 = .ok (.getfield 7, 3) := by decide +kernel
theorem dX3_tick_109 : decode cX3_tick 109 = .ok (.sipush 245, 3) := by decide +kernel
theorem dX3_tick_112 : decode cX3_tick 112 = .ok (.iload 4, 2) := by decide +kernel
theorem dX3_tick_114 : decode cX3_tick 114 = .ok (.sipush 128, 3) := by decide +kernel
theorem dX3_tick_117 : decode cX3_tick 117 = .ok (.irem, 1) := by decide +kernel
theorem dX3_tick_118 : decode cX3_tick 118 = .ok (.iadd, 1) := by decide +kernel
theorem dX3_tick_119 : decode cX3_tick 119 = .ok (.iaload, 1) := by decide +kernel
theorem dX3_tick_120 : decode cX3_tick 120 = .ok (.ifCond .ne 17, 3) := by decide +kernel
theorem dX3_tick_123 : decode cX3_tick 123 = .ok (.aload_n 0, 1) := by decide +kernel
theorem dX3_tick_124 : decode cX3_tick 124 = .ok (.getfield 22, 3) := by decide +kernel
theorem dX3_tick_127 : decode cX3_tick 127 = .ok (.iload_n 1, 1) := by decide +kernel
theorem dX3_tick_128 : decode cX3_tick 128 = .ok (.iload 4, 2) := by decide +kernel
theorem dX3_tick_130 : decode cX3_tick 130 = .ok (.iastore, 1) := by decide +kernel
theorem dX3_tick_131 : decode cX3_tick 131 = .ok (.iinc 1 1, 3) := by decide +kernel
theorem dX3_tick_134 : decode cX3_tick 134 = .ok (.goto 18, 3) := by decide +kernel
theorem dX3_tick_137 : decode cX3_tick 137 = .ok (.aload_n 0, 1) := by decide +kernel
theorem dX3_tick_138 : decode cX3_tick 138 = .ok (.getfield 7, 3) := by decide +kernel
theorem dX3_tick_141 : decode cX3_tick 141 = .ok (.sipush 342, 3) := by decide +kernel
theorem dX3_tick_144 : decode cX3_tick 144 = .ok (.iload_n 2, 1) := by decide +kernel
theorem dX3_tick_145 : decode cX3_tick 145 = .ok (.iadd, 1) := by decide +kernel
theorem dX3_tick_146 : decode cX3_tick 146 = .ok (.iload 4, 2) := by decide +kernel
theorem dX3_tick_148 : decode cX3_tick 148 = .ok (.iastore, 1) := by decide +kernel
theorem dX3_tick_149 : decode cX3_tick 149 = .ok (.iinc 2 1, 3) := by decide +kernel
theorem dX3_tick_152 : decode cX3_tick 152 = .ok (.iinc 3 1, 3) := by decide +kernel
theorem dX3_tick_155 : decode cX3_tick 155 = .ok (.goto (-74), 3) := by decide +kernel
theorem dX3_tick_158 : decode cX3_tick 158 = .ok (.aload_n 0, 1) := by decide +kernel
theorem dX3_tick_159 : decode cX3_tick 159 = .ok (.getfield 7, 3) := by decide +kernel
theorem dX3_tick_162 : decode cX3_tick 162 = .ok (.sipush 341, 3) := by decide +kernel
theorem dX3_tick_165 : decode cX3_tick 165 = .ok (.iload_n 2, 1) := by decide +kernel
theorem dX3_tick_166 : decode cX3_tick 166 = .ok (.iastore, 1) := by decide +kernel
theorem dX3_tick_167 : decode cX3_tick 167 = .ok (.iconst 0, 1) := by decide +kernel
theorem dX3_tick_168 : decode cX3_tick 168 = .ok (.istore_n 3, 1) := by decide +kernel
theorem dX3_tick_169 : decode cX3_tick 169 = .ok (.iload_n 3, 1) := by decide +kernel
theorem dX3_tick_170 : decode cX3_tick 170 = .ok (.iload_n 1, 1) := by decide +kernel
theorem dX3_tick_171 : decode cX3_tick 171 = .ok (.if_icmp .ge 19, 3) := by decide +kernel
theorem dX3_tick_174 : decode cX3_tick 174 = .ok (.aload_n 0, 1) := by decide +kernel
theorem dX3_tick_175 : decode cX3_tick 175 = .ok (.aload_n 0, 1) := by decide +kernel
theorem dX3_tick_176 : decode cX3_tick 176 = .ok (.getfield 22, 3) := by decide +kernel
theorem dX3_tick_179 : decode cX3_tick 179 = .ok (.iload_n 3, 1) := by decide +kernel
theorem dX3_tick_180 : decode cX3_tick 180 = .ok (.iaload, 1) := by decide +kernel
theorem dX3_tick_181 : decode cX3_tick 181 = .ok (.invokevirtual 63, 3) := by decide +kernel
theorem dX3_tick_184 : decode cX3_tick 184 = .ok (.iinc 3 1, 3) := by decide +kernel
theorem dX3_tick_187 : decode cX3_tick 187 = .ok (.goto (-18), 3) := by decide +kernel
theorem dX3_tick_190 : decode cX3_tick 190 = .ok (.iload_n 1, 1) := by decide +kernel
theorem dX3_tick_191 : decode cX3_tick 191 = .ok (.ireturn, 1) := by decide +kernel
theorem dX3_time_0 : decode cX3_time 0 = .ok (.aload_n 0, 1) := by decide +kernel
theorem dX3_time_1 : decode cX3_time 1 = .ok (.getfield 7, 3) := by decide +kernel
theorem dX3_time_4 : decode cX3_time 4 = .ok (.sipush 462, 3) := by decide +kernel
theorem dX3_time_7 : decode cX3_time 7 = .ok (.iaload, 1) := by decide +kernel
theorem dX3_time_8 : decode cX3_time 8 = .ok (.ireturn, 1) := by decide +kernel
theorem dX3_isHeld_0 : decode cX3_isHeld 0 = .ok (.iload_n 1, 1) := by decide +kernel
theorem dX3_isHeld_1 : decode cX3_isHeld 1 = .ok (.iload_n 2, 1) := by decide +kernel
theorem dX3_isHeld_2 : decode cX3_isHeld 2 = .ok (.invokestatic 83, 3) := by decide +kernel
theorem dX3_isHeld_5 : decode cX3_isHeld 5 = .ok (.ifCond .eq 29, 3) := by decide +kernel
theorem dX3_isHeld_8 : decode cX3_isHeld 8 = .ok (.aload_n 0, 1) := by decide +kernel
theorem dX3_isHeld_9 : decode cX3_isHeld 9 = .ok (.getfield 7, 3) := by decide +kernel
theorem dX3_isHeld_12 : decode cX3_isHeld 12 = .ok (.sipush 245, 3) := by decide +kernel
theorem dX3_isHeld_15 : decode cX3_isHeld 15 = .ok (.bipush 16, 2) := by decide +kernel
theorem dX3_isHeld_17 : decode cX3_isHeld 17 = .ok (.iload_n 1, 1) := by decide +kernel
theorem dX3_isHeld_18 : decode cX3_isHeld 18 = .ok (.imul, 1) := by decide +kernel
theorem dX3_isHeld_19 : decode cX3_isHeld 19 = .ok (.iadd, 1) := by decide +kernel
theorem dX3_isHeld_20 : decode cX3_isHeld 20 = .ok (.iload_n 2, 1) := by decide +kernel
theorem dX3_isHeld_21 : decode cX3_isHeld 21 = .ok (.iadd, 1) := by decide +kernel
theorem dX3_isHeld_22 : decode cX3_isHeld 22 = .ok (.iaload, 1) := by decide +kernel
theorem dX3_isHeld_23 : decode cX3_isHeld 23 = .ok (.ifCond .le 7, 3) := by decide +kernel
theorem dX3_isHeld_26 : decode cX3_isHeld 26 = .ok (.iconst 1, 1) := by decide +kernel
theorem dX3_isHeld_27 : decode cX3_isHeld 27 = .ok (.goto 13, 3) := by decide +kernel
theorem dX3_isHeld_30 : decode cX3_isHeld 30 = .ok (.iconst 0, 1) := by decide +kernel
theorem dX3_isHeld_31 : decode cX3_isHeld 31 = .ok (.goto 9, 3) := by decide +kernel
theorem dX3_isHeld_34 : decode cX3_isHeld 34 = .ok (.aload_n 0, 1) := by decide +kernel
theorem dX3_isHeld_35 : decode cX3_isHeld 35 = .ok (.bipush (-2), 2) := by decide +kernel
theorem dX3_isHeld_37 : decode cX3_isHeld 37 = .ok (.invokevirtual 29, 3) := by decide +kernel
theorem dX3_isHeld_40 : decode cX3_isHeld 40 = .ok (.ireturn, 1) := by decide +kernel
theorem dX3_heldMessages_0 : decode cX3_heldMessages 0 = .ok (.aload_n 0, 1) := by decide +kernel
