theorem dX0_init_0 : decode cX0_init 0 = .ok (.aload_n 0, 1) := by decide +kernel
theorem dX0_init_1 : decode cX0_init 1 = .ok (.invokespecial 3, 3) := by decide +kernel
theorem dX0_init_4 : decode cX0_init 4 = .ok (.aload_n 0, 1) := by decide +kernel
theorem dX0_init_5 : decode cX0_init 5 = .ok (.iconst 3, 1) := by decide +kernel
theorem dX0_init_6 : decode cX0_init 6 = .ok (.putfield 9, 3) := by decide +kernel
theorem dX0_init_9 : decode cX0_init 9 = .ok (.aload_n 0, 1) := by decide +kernel
theorem dX0_init_10 : decode cX0_init 10 = .ok (.iconst 4, 1) := by decide +kernel
theorem dX0_init_11 : decode cX0_init 11 = .ok (.newarray .int, 2) := by decide +kernel
theorem dX0_init_13 : decode cX0_init 13 = .ok (.putfield 15, 3) := by decide +kernel
theorem dX0_init_16 : decode cX0_init 16 = .ok (.aload_n 0, 1) := by decide +kernel
theorem dX0_init_17 : decode cX0_init 17 = .ok (.iconst 4, 1) := by decide +kernel
theorem dX0_init_18 : decode cX0_init 18 = .ok (.newarray .int, 2) := by decide +kernel
theorem dX0_init_20 : decode cX0_init 20 = .ok (.putfield 19, 3) := by decide +kernel
theorem dX0_init_23 : decode cX0_init 23 = .ok (.aload_n 0, 1) := by decide +kernel
theorem dX0_init_24 : decode cX0_init 24 = .ok (.bipush 16, 2) := by decide +kernel
theorem dX0_init_26 : decode cX0_init 26 = .ok (.newarray .int, 2) := by decide +kernel
theorem dX0_init_28 : decode cX0_init 28 = .ok (.putfield 22, 3) := by decide +kernel
theorem dX0_init_31 : decode cX0_init 31 = .ok (.aload_n 0, 1) := by decide +kernel
theorem dX0_init_32 : decode cX0_init 32 = .ok (.sipush 160, 3) := by decide +kernel
theorem dX0_init_35 : decode cX0_init 35 = .ok (.newarray .int, 2) := by decide +kernel
theorem dX0_init_37 : decode cX0_init 37 = .ok (.putfield 25, 3) := by decide +kernel
theorem dX0_init_40 : decode cX0_init 40 = .ok (.aload_n 0, 1) := by decide +kernel
theorem dX0_init_41 : decode cX0_init 41 = .ok (.bipush 24, 2) := by decide +kernel
theorem dX0_init_43 : decode cX0_init 43 = .ok (.newarray .int, 2) := by decide +kernel
theorem dX0_init_45 : decode cX0_init 45 = .ok (.putfield 28, 3) := by decide +kernel
theorem dX0_init_48 : decode cX0_init 48 = .ok (.aload_n 0, 1) := by decide +kernel
theorem dX0_init_49 : decode cX0_init 49 = .ok (.bipush 24, 2) := by decide +kernel
theorem dX0_init_51 : decode cX0_init 51 = .ok (.newarray .int, 2) := by decide +kernel
theorem dX0_init_53 : decode cX0_init 53 = .ok (.putfield 31, 3) := by decide +kernel
theorem dX0_init_56 : decode cX0_init 56 = .ok (.aload_n 0, 1) := by decide +kernel
theorem dX0_init_57 : decode cX0_init 57 = .ok (.bipush 96, 2) := by decide +kernel
theorem dX0_init_59 : decode cX0_init 59 = .ok (.newarray .int, 2) := by decide +kernel
theorem dX0_init_61 : decode cX0_init 61 = .ok (.putfield 34, 3) := by decide +kernel
theorem dX0_init_64 : decode cX0_init 64 = .ok (.aload_n 0, 1) := by decide +kernel
theorem dX0_init_65 : decode cX0_init 65 = .ok (.bipush 96, 2) := by decide +kernel
theorem dX0_init_67 : decode cX0_init 67 = .ok (.newarray .int, 2) := by decide +kernel
theorem dX0_init_69 : decode cX0_init 69 = .ok (.putfield 37, 3) := by decide +kernel
theorem dX0_init_72 : decode cX0_init 72 = .ok (.aload_n 0, 1) := by decide +kernel
theorem dX0_init_73 : decode cX0_init 73 = .ok (.bipush 24, 2) := by decide +kernel
theorem dX0_init_75 : decode cX0_init 75 = .ok (.newarray .int, 2) := by decide +kernel
theorem dX0_init_77 : decode cX0_init 77 = .ok (.putfield 40, 3) := by decide +kernel
theorem dX0_init_80 : decode cX0_init 80 = .ok (.aload_n 0, 1) := by decide +kernel
theorem dX0_init_81 : decode cX0_init 81 = .ok (.getfield 28, 3) := by decide +kernel
theorem dX0_init_84 : decode cX0_init 84 = .ok (.iconst (-1), 1) := by decide +kernel
theorem dX0_init_85 : decode cX0_init 85 = .ok (.invokestatic 43, 3) := by decide +kernel
theorem dX0_init_88 : decode cX0_init 88 = .ok (.aload_n 0, 1) := by decide +kernel
theorem dX0_init_89 : decode cX0_init 89 = .ok (.getfield 31, 3) := by decide +kernel
theorem dX0_init_92 : decode cX0_init 92 = .ok (.iconst (-1), 1) := by decide +kernel
theorem dX0_init_93 : decode cX0_init 93 = .ok (.invokestatic 43, 3) := by decide +kernel
theorem dX0_init_96 : decode cX0_init 96 = .ok (.aload_n 0, 1) := by decide +kernel
theorem dX0_init_97 : decode cX0_init 97 = .ok (.getfield 37, 3) := by decide +kernel
theorem dX0_init_100 : decode cX0_init 100 = .ok (.iconst (-1), 1) := by decide +kernel
theorem dX0_init_101 : decode cX0_init 101 = .ok (.invokestatic 43, 3) := by decide +kernel
theorem dX0_init_104 : decode cX0_init 104 = .ok (.return_, 1) := by decide +kernel
theorem dX0_copyFrom_0 : decode cX0_copyFrom 0 = .ok (.aload_n 0, 1) := by decide +kernel
theorem dX0_copyFrom_1 : decode cX0_copyFrom 1 = .ok (.aload_n 1, 1) := by decide +kernel
theorem dX0_copyFrom_2 : decode cX0_copyFrom 2 = .ok (.getfield 49, 3) := by decide +kernel
theorem dX0_copyFrom_5 : decode cX0_copyFrom 5 = .ok (.putfield 49, 3) := by decide +kernel
theorem dX0_copyFrom_8 : decode cX0_copyFrom 8 = .ok (.aload_n 0, 1) := by decide +kernel
theorem dX0_copyFrom_9 : decode cX0_copyFrom 9 = .ok (.aload_n 1, 1) := by decide +kernel
theorem dX0_copyFrom_10 : decode cX0_copyFrom 10 = .ok (.getfield 9, 3) := by decide +kernel
theorem dX0_copyFrom_13 : decode cX0_copyFrom 13 = .ok (.putfield 9, 3) := by decide +kernel
theorem dX0_copyFrom_16 : decode cX0_copyFrom 16 = .ok (.aload_n 0, 1) := by decide +kernel
theorem dX0_copyFrom_17 : decode cX0_copyFrom 17 = .ok (.aload_n 1, 1) := by decide +kernel
theorem dX0_copyFrom_18 : decode cX0_copyFrom 18 = .ok (.getfield 52, 3) := by decide +kernel
theorem dX0_copyFrom_21 : decode cX0_copyFrom 21 = .ok (.putfield 52, 3) := by decide +kernel
theorem dX0_copyFrom_24 : decode cX0_copyFrom 24 = .ok (.aload_n 0, 1) := by decide +kernel
theorem dX0_copyFrom_25 : decode cX0_copyFrom 25 = .ok (.aload_n 1, 1) := by decide +kernel
theorem dX0_copyFrom_26 : decode cX0_copyFrom 26 = .ok (.getfield 55, 3) := by decide +kernel
theorem dX0_copyFrom_29 : decode cX0_copyFrom 29 = .ok (.putfield 55, 3) := by decide +kernel
theorem dX0_copyFrom_32 : decode cX0_copyFrom 32 = .ok (.aload_n 0, 1) := by decide +kernel
theorem dX0_copyFrom_33 : decode cX0_copyFrom 33 = .ok (.aload_n 1, 1) := by decide +kernel
theorem dX0_copyFrom_34 : decode cX0_copyFrom 34 = .ok (.getfield 58, 3) := by decide +kernel
theorem dX0_copyFrom_37 : decode cX0_copyFrom 37 = .ok (.putfield 58, 3) := by decide +kernel
theorem dX0_copyFrom_40 : decode cX0_copyFrom 40 = .ok (.aload_n 0, 1) := by decide +kernel
theorem dX0_copyFrom_41 : decode cX0_copyFrom 41 = .ok (.aload_n 1, 1) := by decide +kernel
theorem dX0_copyFrom_42 : decode cX0_copyFrom 42 = .ok (.getfield 61, 3) := by decide +kernel
theorem dX0_copyFrom_45 : decode cX0_copyFrom 45 = .ok (.putfield 61, 3) := by decide +kernel
theorem dX0_copyFrom_48 : decode cX0_copyFrom 48 = .ok (.aload_n 0, 1) := by decide +kernel
theorem dX0_copyFrom_49 : decode cX0_copyFrom 49 = .ok (.aload_n 1, 1) := by decide +kernel
theorem dX0_copyFrom_50 : decode cX0_copyFrom 50 = .ok (.getfield 64, 3) := by decide +kernel
theorem dX0_copyFrom_53 : decode cX0_copyFrom 53 = .ok (.putfield 64, 3) := by decide +kernel
theorem dX0_copyFrom_56 : decode cX0_copyFrom 56 = .ok (.aload_n 0, 1) := by decide +kernel
theorem dX0_copyFrom_57 : decode cX0_copyFrom 57 = .ok (.aload_n 1, 1) := by decide +kernel
theorem dX0_copyFrom_58 : decode cX0_copyFrom 58 = .ok (.getfield 67, 3) := by decide +kernel
theorem dX0_copyFrom_61 : decode cX0_copyFrom 61 = .ok (.putfield 67, 3) := by decide +kernel
theorem dX0_copyFrom_64 : decode cX0_copyFrom 64 = .ok (.aload_n 0, 1) := by decide +kernel
theorem dX0_copyFrom_65 : decode cX0_copyFrom 65 = .ok (.aload_n 1, 1) := by decide +kernel
theorem dX0_copyFrom_66 : decode cX0_copyFrom 66 = .ok (.getfield 70, 3) := by decide +kernel
theorem dX0_copyFrom_69 : decode cX0_copyFrom 69 = .ok (.putfield 70, 3) := by decide +kernel
theorem dX0_copyFrom_72 : decode cX0_copyFrom 72 = .ok (.aload_n 0, 1) := by decide +kernel
theorem dX0_copyFrom_73 : decode cX0_copyFrom 73 = .ok (.aload_n 1, 1) := by decide +kernel
theorem dX0_copyFrom_74 : decode cX0_copyFrom 74 = .ok (.getfield 73, 3) := by decide +kernel
theorem dX0_copyFrom_77 : decode cX0_copyFrom 77 = .ok (.putfield 73, 3) := by decide +kernel
theorem dX0_copyFrom_80 : decode cX0_copyFrom 80 = .ok (.aload_n 1, 1) := by decide +kernel
theorem dX0_copyFrom_81 : decode cX0_copyFrom 81 = .ok (.getfield 15, 3) := by decide +kernel
theorem dX0_copyFrom_84 : decode cX0_copyFrom 84 = .ok (.aload_n 0, 1) := by decide +kernel
theorem dX0_copyFrom_85 : decode cX0_copyFrom 85 = .ok (.getfield 15, 3) := by decide +kernel
theorem dX0_copyFrom_88 : decode cX0_copyFrom 88 = .ok (.invokestatic 76, 3) := by decide +kernel
theorem dX0_copyFrom_91 : decode cX0_copyFrom 91 = .ok (.aload_n 1, 1) := by decide +kernel
theorem dX0_copyFrom_92 : decode cX0_copyFrom 92 = .ok (.getfield 19, 3) := by decide +kernel
theorem dX0_copyFrom_95 : decode cX0_copyFrom 95 = .ok (.aload_n 0, 1) := by decide +kernel
theorem dX0_copyFrom_96 : decode cX0_copyFrom 96 = .ok (.getfield 19, 3) := by decide +kernel
theorem dX0_copyFrom_99 : decode cX0_copyFrom 99 = .ok (.invokestatic 76, 3) := by decide +kernel
theorem dX0_copyFrom_102 : decode cX0_copyFrom 102 = .ok (.aload_n 1, 1) := by decide +kernel
theorem dX0_copyFrom_103 : decode cX0_copyFrom 103 = .ok (.getfield 22, 3) := by decide +kernel
theorem dX0_copyFrom_106 : decode cX0_copyFrom 106 = .ok (.aload_n 0, 1) := by decide +kernel
theorem dX0_copyFrom_107 : decode cX0_copyFrom 107 = .ok (.getfield 22, 3) := by decide +kernel
theorem dX0_copyFrom_110 : decode cX0_copyFrom 110 = .ok (.invokestatic 76, 3) := by decide +kernel
theorem dX0_copyFrom_113 : decode cX0_copyFrom 113 = .ok (.aload_n 1, 1) := by decide +kernel
theorem dX0_copyFrom_114 : decode cX0_copyFrom 114 = .ok (.getfield 25, 3) := by decide +kernel
theorem dX0_copyFrom_117 : decode cX0_copyFrom 117 = .ok (.aload_n 0, 1) := by decide +kernel
theorem dX0_copyFrom_118 : decode cX0_copyFrom 118 = .ok (.getfield 25, 3) := by decide +kernel
theorem dX0_copyFrom_121 : decode cX0_copyFrom 121 = .ok (.invokestatic 76, 3) := by decide +kernel
theorem dX0_copyFrom_124 : decode cX0_copyFrom 124 = .ok (.aload_n 1, 1) := by decide +kernel
theorem dX0_copyFrom_125 : decode cX0_copyFrom 125 = .ok (.getfield 28, 3) := by decide +kernel
theorem dX0_copyFrom_128 : decode cX0_copyFrom 128 = .ok (.aload_n 0, 1) := by decide +kernel
theorem dX0_copyFrom_129 : decode cX0_copyFrom 129 = .ok (.getfield 28, 3) := by decide +kernel
theorem dX0_copyFrom_132 : decode cX0_copyFrom 132 = .ok (.invokestatic 76, 3) := by decide +kernel
theorem dX0_copyFrom_135 : decode cX0_copyFrom 135 = .ok (.aload_n 1, 1) := by decide +kernel
theorem dX0_copyFrom_136 : decode cX0_copyFrom 136 = .ok (.getfield 31, 3) := by decide +kernel
theorem dX0_copyFrom_139 : decode cX0_copyFrom 139 = .ok (.aload_n 0, 1) := by decide +kernel
theorem dX0_copyFrom_140 : decode cX0_copyFrom 140 = .ok (.getfield 31, 3) := by decide +kernel
theorem dX0_copyFrom_143 : decode cX0_copyFrom 143 = .ok (.invokestatic 76, 3) := by decide +kernel
theorem dX0_copyFrom_146 : decode cX0_copyFrom 146 = .ok (.aload_n 1, 1) := by decide +kernel
theorem dX0_copyFrom_147 : decode cX0_copyFrom 147 = .ok (.getfield 34, 3) := by decide +kernel
theorem dX0_copyFrom_150 : decode cX0_copyFrom 150 = .ok (.aload_n 0, 1) := by decide +kernel
theorem dX0_copyFrom_151 : decode cX0_copyFrom 151 = .ok (.getfield 34, 3) := by decide +kernel
theorem dX0_copyFrom_154 : decode cX0_copyFrom 154 = .ok (.invokestatic 76, 3) := by decide +kernel
theorem dX0_copyFrom_157 : decode cX0_copyFrom 157 = .ok (.aload_n 1, 1) := by decide +kernel
theorem dX0_copyFrom_158 : decode cX0_copyFrom 158 = .ok (.getfield 37, 3) := by decide +kernel
theorem dX0_copyFrom_161 : decode cX0_copyFrom 161 = .ok (.aload_n 0, 1) := by decide +kernel
theorem dX0_copyFrom_162 : decode cX0_copyFrom 162 = .ok (.getfield 37, 3) := by decide +kernel
theorem dX0_copyFrom_165 : decode cX0_copyFrom 165 = .ok (.invokestatic 76, 3) := by decide +kernel
theorem dX0_copyFrom_168 : decode cX0_copyFrom 168 = .ok (.aload_n 1, 1) := by decide +kernel
theorem dX0_copyFrom_169 : decode cX0_copyFrom 169 = .ok (.getfield 40, 3) := by decide +kernel
theorem dX0_copyFrom_172 : decode cX0_copyFrom 172 = .ok (.aload_n 0, 1) := by decide +kernel
theorem dX0_copyFrom_173 : decode cX0_copyFrom 173 = .ok (.getfield 40, 3) := by decide +kernel
theorem dX0_copyFrom_176 : decode cX0_copyFrom 176 = .ok (.invokestatic 76, 3) := by decide +kernel
theorem dX0_copyFrom_179 : decode cX0_copyFrom 179 = .ok (.return_, 1) := by decide +kernel
theorem dX0_copyRow_0 : decode cX0_copyRow 0 = .ok (.aload_n 0, 1) := by decide +kernel
theorem dX0_copyRow_1 : decode cX0_copyRow 1 = .ok (.iconst 0, 1) := by decide +kernel
theorem dX0_copyRow_2 : decode cX0_copyRow 2 = .ok (.aload_n 1, 1) := by decide +kernel
theorem dX0_copyRow_3 : decode cX0_copyRow 3 = .ok (.iconst 0, 1) := by decide +kernel
theorem dX0_copyRow_4 : decode cX0_copyRow 4 = .ok (.aload_n 0, 1) := by decide +kernel
theorem dX0_copyRow_5 : decode cX0_copyRow 5 = .ok (.arraylength, 1) := by decide +kernel
theorem dX0_copyRow_6 : decode cX0_copyRow 6 = .ok (.aload_n 1, 1) := by decide +kernel
theorem dX0_copyRow_7 : decode cX0_copyRow 7 = .ok (.arraylength, 1) := by decide +kernel
theorem dX0_copyRow_8 : decode cX0_copyRow 8 = .ok (.invokestatic 80, 3) := by decide +kernel
theorem dX0_copyRow_11 : decode cX0_copyRow 11 = .ok (.invokestatic 86, 3) := by decide +kernel
theorem dX0_copyRow_14 : decode cX0_copyRow 14 = .ok (.return_, 1) := by decide +kernel
theorem dX0_hasLinkset_0 : decode cX0_hasLinkset 0 = .ok (.iload_n 1, 1) := by decide +kernel
theorem dX0_hasLinkset_1 : decode cX0_hasLinkset 1 = .ok (.ifCond .lt 15, 3) := by decide +kernel
theorem dX0_hasLinkset_4 : decode cX0_hasLinkset 4 = .ok (.iload_n 1, 1) := by decide +kernel
theorem dX0_hasLinkset_5 : decode cX0_hasLinkset 5 = .ok (.aload_n 0, 1) := by decide +kernel
theorem dX0_hasLinkset_6 : decode cX0_hasLinkset 6 = .ok (.getfield 70, 3) := by decide +kernel
theorem dX0_hasLinkset_9 : decode cX0_hasLinkset 9 = .ok (.if_icmp .ge 7, 3) := by decide +kernel
theorem dX0_hasLinkset_12 : decode cX0_hasLinkset 12 = .ok (.iconst 1, 1) := by decide +kernel
theorem dX0_hasLinkset_13 : decode cX0_hasLinkset 13 = .ok (.goto 4, 3) := by decide +kernel
theorem dX0_hasLinkset_16 : decode cX0_hasLinkset 16 = .ok (.iconst 0, 1) := by decide +kernel
theorem dX0_hasLinkset_17 : decode cX0_hasLinkset 17 = .ok (.ireturn, 1) := by decide +kernel
theorem dX0_hasLink_0 : decode cX0_hasLink 0 = .ok (.aload_n 0, 1) := by decide +kernel
theorem dX0_hasLink_1 : decode cX0_hasLink 1 = .ok (.iload_n 1, 1) := by decide +kernel
theorem dX0_hasLink_2 : decode cX0_hasLink 2 = .ok (.invokevirtual 92, 3) := by decide +kernel
theorem dX0_hasLink_5 : decode cX0_hasLink 5 = .ok (.ifCond .eq 21, 3) := by decide +kernel
theorem dX0_hasLink_8 : decode cX0_hasLink 8 = .ok (.iload_n 2, 1) := by decide +kernel
theorem dX0_hasLink_9 : decode cX0_hasLink 9 = .ok (.ifCond .lt 17, 3) := by decide +kernel
theorem dX0_hasLink_12 : decode cX0_hasLink 12 = .ok (.iload_n 2, 1) := by decide +kernel
theorem dX0_hasLink_13 : decode cX0_hasLink 13 = .ok (.aload_n 0, 1) := by decide +kernel
theorem dX0_hasLink_14 : decode cX0_hasLink 14 = .ok (.getfield 15, 3) := by decide +kernel
theorem dX0_hasLink_17 : decode cX0_hasLink 17 = .ok (.iload_n 1, 1) := by decide +kernel
theorem dX0_hasLink_18 : decode cX0_hasLink 18 = .ok (.iaload, 1) := by decide +kernel
theorem dX0_hasLink_19 : decode cX0_hasLink 19 = .ok (.if_icmp .ge 7, 3) := by decide +kernel
theorem dX0_hasLink_22 : decode cX0_hasLink 22 = .ok (.iconst 1, 1) := by decide +kernel
theorem dX0_hasLink_23 : decode cX0_hasLink 23 = .ok (.goto 4, 3) := by decide +kernel
theorem dX0_hasLink_26 : decode cX0_hasLink 26 = .ok (.iconst 0, 1) := by decide +kernel
theorem dX0_hasLink_27 : decode cX0_hasLink 27 = .ok (.ireturn, 1) := by decide +kernel
theorem dX0_canHaveRoute_0 : decode cX0_canHaveRoute 0 = .ok (.iload_n 1, 1) := by decide +kernel
theorem dX0_canHaveRoute_1 : decode cX0_canHaveRoute 1 = .ok (.invokestatic 96, 3) := by decide +kernel
theorem dX0_canHaveRoute_4 : decode cX0_canHaveRoute 4 = .ok (.ifCond .eq 15, 3) := by decide +kernel
theorem dX0_canHaveRoute_7 : decode cX0_canHaveRoute 7 = .ok (.aload_n 0, 1) := by decide +kernel
theorem dX0_canHaveRoute_8 : decode cX0_canHaveRoute 8 = .ok (.iload_n 2, 1) := by decide +kernel
theorem dX0_canHaveRoute_9 : decode cX0_canHaveRoute 9 = .ok (.invokevirtual 92, 3) := by decide +kernel
theorem dX0_canHaveRoute_12 : decode cX0_canHaveRoute 12 = .ok (.ifCond .eq 7, 3) := by decide +kernel
theorem dX0_canHaveRoute_15 : decode cX0_canHaveRoute 15 = .ok (.iconst 1, 1) := by decide +kernel
theorem dX0_canHaveRoute_16 : decode cX0_canHaveRoute 16 = .ok (.goto 4, 3) := by decide +kernel
theorem dX0_canHaveRoute_19 : decode cX0_canHaveRoute 19 = .ok (.iconst 0, 1) := by decide +kernel
theorem dX0_canHaveRoute_20 : decode cX0_canHaveRoute 20 = .ok (.ireturn, 1) := by decide +kernel
theorem dX0_linkWorks_0 : decode cX0_linkWorks 0 = .ok (.aload_n 0, 1) := by decide +kernel
theorem dX0_linkWorks_1 : decode cX0_linkWorks 1 = .ok (.getfield 19, 3) := by decide +kernel
theorem dX0_linkWorks_4 : decode cX0_linkWorks 4 = .ok (.iload_n 1, 1) := by decide +kernel
theorem dX0_linkWorks_5 : decode cX0_linkWorks 5 = .ok (.iaload, 1) := by decide +kernel
theorem dX0_linkWorks_6 : decode cX0_linkWorks 6 = .ok (.iload_n 2, 1) := by decide +kernel
theorem dX0_linkWorks_7 : decode cX0_linkWorks 7 = .ok (.ishr, 1) := by decide +kernel
theorem dX0_linkWorks_8 : decode cX0_linkWorks 8 = .ok (.iconst 1, 1) := by decide +kernel
theorem dX0_linkWorks_9 : decode cX0_linkWorks 9 = .ok (.iand, 1) := by decide +kernel
theorem dX0_linkWorks_10 : decode cX0_linkWorks 10 = .ok (.iconst 1, 1) := by decide +kernel
theorem dX0_linkWorks_11 : decode cX0_linkWorks 11 = .ok (.if_icmp .ne 7, 3) := by decide +kernel
theorem dX0_linkWorks_14 : decode cX0_linkWorks 14 = .ok (.iconst 1, 1) := by decide +kernel
theorem dX0_linkWorks_15 : decode cX0_linkWorks 15 = .ok (.goto 4, 3) := by decide +kernel
theorem dX0_linkWorks_18 : decode cX0_linkWorks 18 = .ok (.iconst 0, 1) := by decide +kernel
theorem dX0_linkWorks_19 : decode cX0_linkWorks 19 = .ok (.ireturn, 1) := by decide +kernel
theorem dX0_holds_0 : decode cX0_holds 0 = .ok (.aload_n 0, 1) := by decide +kernel
theorem dX0_holds_1 : decode cX0_holds 1 = .ok (.getfield 34, 3) := by decide +kernel
theorem dX0_holds_4 : decode cX0_holds 4 = .ok (.iload_n 1, 1) := by decide +kernel
theorem dX0_holds_5 : decode cX0_holds 5 = .ok (.iaload, 1) := by decide +kernel
theorem dX0_holds_6 : decode cX0_holds 6 = .ok (.aload_n 0, 1) := by decide +kernel
theorem dX0_holds_7 : decode cX0_holds 7 = .ok (.getfield 49, 3) := by decide +kernel
theorem dX0_holds_10 : decode cX0_holds 10 = .ok (.if_icmp .le 7, 3) := by decide +kernel
theorem dX0_holds_13 : decode cX0_holds 13 = .ok (.iconst 1, 1) := by decide +kernel
theorem dX0_holds_14 : decode cX0_holds 14 = .ok (.goto 4, 3) := by decide +kernel
theorem dX0_holds_17 : decode cX0_holds 17 = .ok (.iconst 0, 1) := by decide +kernel
theorem dX0_holds_18 : decode cX0_holds 18 = .ok (.ireturn, 1) := by decide +kernel
theorem dX0_appendLinkset_0 : decode cX0_appendLinkset 0 = .ok (.aload_n 0, 1) := by decide +kernel
theorem dX0_appendLinkset_1 : decode cX0_appendLinkset 1 = .ok (.getfield 70, 3) := by decide +kernel
theorem dX0_appendLinkset_4 : decode cX0_appendLinkset 4 = .ok (.istore_n 2, 1) := by decide +kernel
theorem dX0_appendLinkset_5 : decode cX0_appendLinkset 5 = .ok (.aload_n 0, 1) := by decide +kernel
theorem dX0_appendLinkset_6 : decode cX0_appendLinkset 6 = .ok (.getfield 15, 3) := by decide +kernel
theorem dX0_appendLinkset_9 : decode cX0_appendLinkset 9 = .ok (.iload_n 2, 1) := by decide +kernel
theorem dX0_appendLinkset_10 : decode cX0_appendLinkset 10 = .ok (.iload_n 1, 1) := by decide +kernel
theorem dX0_appendLinkset_11 : decode cX0_appendLinkset 11 = .ok (.iastore, 1) := by decide +kernel
theorem dX0_appendLinkset_12 : decode cX0_appendLinkset 12 = .ok (.aload_n 0, 1) := by decide +kernel
theorem dX0_appendLinkset_13 : decode cX0_appendLinkset 13 = .ok (.getfield 19, 3) := by decide +kernel
theorem dX0_appendLinkset_16 : decode cX0_appendLinkset 16 = .ok (.iload_n 2, 1) := by decide +kernel
theorem dX0_appendLinkset_17 : decode cX0_appendLinkset 17 = .ok (.iconst 1, 1) := by decide +kernel
theorem dX0_appendLinkset_18 : decode cX0_appendLinkset 18 = .ok (.iload_n 1, 1) := by decide +kernel
theorem dX0_appendLinkset_19 : decode cX0_appendLinkset 19 = .ok (.ishl, 1) := by decide +kernel
theorem dX0_appendLinkset_20 : decode cX0_appendLinkset 20 = .ok (.iconst 1, 1) := by decide +kernel
theorem dX0_appendLinkset_21 : decode cX0_appendLinkset 21 = .ok (.isub, 1) := by decide +kernel
theorem dX0_appendLinkset_22 : decode cX0_appendLinkset 22 = .ok (.iastore, 1) := by decide +kernel
theorem dX0_appendLinkset_23 : decode cX0_appendLinkset 23 = .ok (.aload_n 0, 1) := by decide +kernel
theorem dX0_appendLinkset_24 : decode cX0_appendLinkset 24 = .ok (.dup, 1) := by decide +kernel
theorem dX0_appendLinkset_25 : decode cX0_appendLinkset 25 = .ok (.getfield 70, 3) := by decide +kernel
theorem dX0_appendLinkset_28 : decode cX0_appendLinkset 28 = .ok (.iconst 1, 1) := by decide +kernel
theorem dX0_appendLinkset_29 : decode cX0_appendLinkset 29 = .ok (.iadd, 1) := by decide +kernel
theorem dX0_appendLinkset_30 : decode cX0_appendLinkset 30 = .ok (.putfield 70, 3) := by decide +kernel
theorem dX0_appendLinkset_33 : decode cX0_appendLinkset 33 = .ok (.iload_n 2, 1) := by decide +kernel
theorem dX0_appendLinkset_34 : decode cX0_appendLinkset 34 = .ok (.ireturn, 1) := by decide +kernel
theorem dX0_activate_0 : decode cX0_activate 0 = .ok (.aload_n 0, 1) := by decide +kernel
theorem dX0_activate_1 : decode cX0_activate 1 = .ok (.getfield 19, 3) := by decide +kernel
theorem dX0_activate_4 : decode cX0_activate 4 = .ok (.iload_n 1, 1) := by decide +kernel
theorem dX0_activate_5 : decode cX0_activate 5 = .ok (.dup2, 1) := by decide +kernel
theorem dX0_activate_6 : decode cX0_activate 6 = .ok (.iaload, 1) := by decide +kernel
theorem dX0_activate_7 : decode cX0_activate 7 = .ok (.iconst 1, 1) := by decide +kernel
theorem dX0_activate_8 : decode cX0_activate 8 = .ok (.iload_n 2, 1) := by decide +kernel
theorem dX0_activate_9 : decode cX0_activate 9 = .ok (.ishl, 1) := by decide +kernel
theorem dX0_activate_10 : decode cX0_activate 10 = .ok (.ior, 1) := by decide +kernel
theorem dX0_activate_11 : decode cX0_activate 11 = .ok (.iastore, 1) := by decide +kernel
theorem dX0_activate_12 : decode cX0_activate 12 = .ok (.return_, 1) := by decide +kernel
theorem dX0_changeOver_0 : decode cX0_changeOver 0 = .ok (.aload_n 0, 1) := by decide +kernel
theorem dX0_changeOver_1 : decode cX0_changeOver 1 = .ok (.getfield 19, 3) := by decide +kernel
theorem dX0_changeOver_4 : decode cX0_changeOver 4 = .ok (.iload_n 1, 1) := by decide +kernel
theorem dX0_changeOver_5 : decode cX0_changeOver 5 = .ok (.dup2, 1) := by decide +kernel
theorem dX0_changeOver_6 : decode cX0_changeOver 6 = .ok (.iaload, 1) := by decide +kernel
theorem dX0_changeOver_7 : decode cX0_changeOver 7 = .ok (.iconst 1, 1) := by decide +kernel
theorem dX0_changeOver_8 : decode cX0_changeOver 8 = .ok (.iload_n 2, 1) := by decide +kernel
theorem dX0_changeOver_9 : decode cX0_changeOver 9 = .ok (.ishl, 1) := by decide +kernel
theorem dX0_changeOver_10 : decode cX0_changeOver 10 = .ok (.iconst (-1), 1) := by decide +kernel
theorem dX0_changeOver_11 : decode cX0_changeOver 11 = .ok (.ixor, 1) := by decide +kernel
theorem dX0_changeOver_12 : decode cX0_changeOver 12 = .ok (.iand, 1) := by decide +kernel
theorem dX0_changeOver_13 : decode cX0_changeOver 13 = .ok (.iastore, 1) := by decide +kernel
theorem dX0_changeOver_14 : decode cX0_changeOver 14 = .ok (.iload_n 1, 1) := by decide +kernel
theorem dX0_changeOver_15 : decode cX0_changeOver 15 = .ok (.iload_n 2, 1) := by decide +kernel
theorem dX0_changeOver_16 : decode cX0_changeOver 16 = .ok (.invokestatic 99, 3) := by decide +kernel
theorem dX0_changeOver_19 : decode cX0_changeOver 19 = .ok (.istore_n 3, 1) := by decide +kernel
theorem dX0_changeOver_20 : decode cX0_changeOver 20 = .ok (.aload_n 0, 1) := by decide +kernel
theorem dX0_changeOver_21 : decode cX0_changeOver 21 = .ok (.getfield 22, 3) := by decide +kernel
theorem dX0_changeOver_24 : decode cX0_changeOver 24 = .ok (.iload_n 3, 1) := by decide +kernel
theorem dX0_changeOver_25 : decode cX0_changeOver 25 = .ok (.iaload, 1) := by decide +kernel
theorem dX0_changeOver_26 : decode cX0_changeOver 26 = .ok (.istore 4, 2) := by decide +kernel
theorem dX0_changeOver_28 : decode cX0_changeOver 28 = .ok (.aload_n 0, 1) := by decide +kernel
theorem dX0_changeOver_29 : decode cX0_changeOver 29 = .ok (.getfield 22, 3) := by decide +kernel
theorem dX0_changeOver_32 : decode cX0_changeOver 32 = .ok (.iload_n 3, 1) := by decide +kernel
theorem dX0_changeOver_33 : decode cX0_changeOver 33 = .ok (.iconst 0, 1) := by decide +kernel
theorem dX0_changeOver_34 : decode cX0_changeOver 34 = .ok (.iastore, 1) := by decide +kernel
theorem dX0_changeOver_35 : decode cX0_changeOver 35 = .ok (.iconst 0, 1) := by decide +kernel
theorem dX0_changeOver_36 : decode cX0_changeOver 36 = .ok (.istore 5, 2) := by decide +kernel
theorem dX0_changeOver_38 : decode cX0_changeOver 38 = .ok (.iload 5, 2) := by decide +kernel
theorem dX0_changeOver_40 : decode cX0_changeOver 40 = .ok (.iload 4, 2) := by decide +kernel
theorem dX0_changeOver_42 : decode cX0_changeOver 42 = .ok (.if_icmp .ge 25, 3) := by decide +kernel
theorem dX0_changeOver_45 : decode cX0_changeOver 45 = .ok (.aload_n 0, 1) := by decide +kernel
theorem dX0_changeOver_46 : decode cX0_changeOver 46 = .ok (.aload_n 0, 1) := by decide +kernel
theorem dX0_changeOver_47 : decode cX0_changeOver 47 = .ok (.getfield 25, 3) := by decide +kernel
theorem dX0_changeOver_50 : decode cX0_changeOver 50 = .ok (.iload_n 3, 1) := by decide +kernel
theorem dX0_changeOver_51 : decode cX0_changeOver 51 = .ok (.bipush 10, 2) := by decide +kernel
theorem dX0_changeOver_53 : decode cX0_changeOver 53 = .ok (.imul, 1) := by decide +kernel
theorem dX0_changeOver_54 : decode cX0_changeOver 54 = .ok (.iload 5, 2) := by decide +kernel
theorem dX0_changeOver_56 : decode cX0_changeOver 56 = .ok (.iadd, 1) := by decide +kernel
theorem dX0_changeOver_57 : decode cX0_changeOver 57 = .ok (.iaload, 1) := by decide +kernel
theorem dX0_changeOver_58 : decode cX0_changeOver 58 = .ok (.invokevirtual 102, 3) := by decide +kernel
theorem dX0_changeOver_61 : decode cX0_changeOver 61 = .ok (.iinc 5 1, 3) := by decide +kernel
theorem dX0_changeOver_64 : decode cX0_changeOver 64 = .ok (.goto (-26), 3) := by decide +kernel
theorem dX0_changeOver_67 : decode cX0_changeOver 67 = .ok (.iload 4, 2) := by decide +kernel
theorem dX0_changeOver_69 : decode cX0_changeOver 69 = .ok (.ireturn, 1) := by decide +kernel
theorem dX0_congestionLevel_0 : decode cX0_congestionLevel 0 = .ok (.aload_n 0, 1) := by decide +kernel
theorem dX0_congestionLevel_1 : decode cX0_congestionLevel 1 = .ok (.getfield 22, 3) := by decide +kernel
theorem dX0_congestionLevel_4 : decode cX0_congestionLevel 4 = .ok (.iload_n 1, 1) := by decide +kernel
theorem dX0_congestionLevel_5 : decode cX0_congestionLevel 5 = .ok (.iaload, 1) := by decide +kernel
theorem dX0_congestionLevel_6 : decode cX0_congestionLevel 6 = .ok (.istore_n 2, 1) := by decide +kernel
theorem dX0_congestionLevel_7 : decode cX0_congestionLevel 7 = .ok (.iload_n 2, 1) := by decide +kernel
theorem dX0_congestionLevel_8 : decode cX0_congestionLevel 8 = .ok (.iconst 4, 1) := by decide +kernel
theorem dX0_congestionLevel_9 : decode cX0_congestionLevel 9 = .ok (.if_icmp .ge 5, 3) := by decide +kernel
theorem dX0_congestionLevel_12 : decode cX0_congestionLevel 12 = .ok (.iconst 0, 1) := by decide +kernel
theorem dX0_congestionLevel_13 : decode cX0_congestionLevel 13 = .ok (.ireturn, 1) := by decide +kernel
theorem dX0_congestionLevel_14 : decode cX0_congestionLevel 14 = .ok (.iload_n 2, 1) := by decide +kernel
theorem dX0_congestionLevel_15 : decode cX0_congestionLevel 15 = .ok (.bipush 6, 2) := by decide +kernel
theorem dX0_congestionLevel_17 : decode cX0_congestionLevel 17 = .ok (.if_icmp .ge 5, 3) := by decide +kernel
theorem dX0_congestionLevel_20 : decode cX0_congestionLevel 20 = .ok (.iconst 1, 1) := by decide +kernel
theorem dX0_congestionLevel_21 : decode cX0_congestionLevel 21 = .ok (.ireturn, 1) := by decide +kernel
theorem dX0_congestionLevel_22 : decode cX0_congestionLevel 22 = .ok (.iload_n 2, 1) := by decide +kernel
theorem dX0_congestionLevel_23 : decode cX0_congestionLevel 23 = .ok (.bipush 8, 2) := by decide +kernel
theorem dX0_congestionLevel_25 : decode cX0_congestionLevel 25 = .ok (.if_icmp .ge 7, 3) := by decide +kernel
theorem dX0_congestionLevel_28 : decode cX0_congestionLevel 28 = .ok (.iconst 2, 1) := by decide +kernel
theorem dX0_congestionLevel_29 : decode cX0_congestionLevel 29 = .ok (.goto 4, 3) := by decide +kernel
theorem dX0_congestionLevel_32 : decode cX0_congestionLevel 32 = .ok (.iconst 3, 1) := by decide +kernel
theorem dX0_congestionLevel_33 : decode cX0_congestionLevel 33 = .ok (.ireturn, 1) := by decide +kernel
theorem dX0_routesTo_0 : decode cX0_routesTo 0 = .ok (.aload_n 0, 1) := by decide +kernel
theorem dX0_routesTo_1 : decode cX0_routesTo 1 = .ok (.iload_n 1, 1) := by decide +kernel
theorem dX0_routesTo_2 : decode cX0_routesTo 2 = .ok (.iconst 0, 1) := by decide +kernel
theorem dX0_routesTo_3 : decode cX0_routesTo 3 = .ok (.invokevirtual 106, 3) := by decide +kernel
theorem dX0_routesTo_6 : decode cX0_routesTo 6 = .ok (.istore_n 2, 1) := by decide +kernel
theorem dX0_routesTo_7 : decode cX0_routesTo 7 = .ok (.iload_n 2, 1) := by decide +kernel
theorem dX0_routesTo_8 : decode cX0_routesTo 8 = .ok (.ifCond .eq 7, 3) := by decide +kernel
theorem dX0_routesTo_11 : decode cX0_routesTo 11 = .ok (.iload_n 2, 1) := by decide +kernel
theorem dX0_routesTo_12 : decode cX0_routesTo 12 = .ok (.goto 9, 3) := by decide +kernel
theorem dX0_routesTo_15 : decode cX0_routesTo 15 = .ok (.aload_n 0, 1) := by decide +kernel
theorem dX0_routesTo_16 : decode cX0_routesTo 16 = .ok (.iload_n 1, 1) := by decide +kernel
theorem dX0_routesTo_17 : decode cX0_routesTo 17 = .ok (.iconst 1, 1) := by decide +kernel
theorem dX0_routesTo_18 : decode cX0_routesTo 18 = .ok (.invokevirtual 106, 3) := by decide +kernel
theorem dX0_routesTo_21 : decode cX0_routesTo 21 = .ok (.ireturn, 1) := by decide +kernel
theorem dX0_preferredRoutes_0 : decode cX0_preferredRoutes 0 = .ok (.iconst 3, 1) := by decide +kernel
theorem dX0_preferredRoutes_1 : decode cX0_preferredRoutes 1 = .ok (.istore_n 3, 1) := by decide +kernel
theorem dX0_preferredRoutes_2 : decode cX0_preferredRoutes 2 = .ok (.iconst 0, 1) := by decide +kernel
theorem dX0_preferredRoutes_3 : decode cX0_preferredRoutes 3 = .ok (.istore 4, 2) := by decide +kernel
theorem dX0_preferredRoutes_5 : decode cX0_preferredRoutes 5 = .ok (.iconst 0, 1) := by decide +kernel
theorem dX0_preferredRoutes_6 : decode cX0_preferredRoutes 6 = .ok (.istore 5, 2) := by decide +kernel
theorem dX0_preferredRoutes_8 : decode cX0_preferredRoutes 8 = .ok (.iload 5, 2) := by decide +kernel
theorem dX0_preferredRoutes_10 : decode cX0_preferredRoutes 10 = .ok (.aload_n 0, 1) := by decide +kernel
theorem dX0_preferredRoutes_11 : decode cX0_preferredRoutes 11 = .ok (.getfield 70, 3) := by decide +kernel
theorem dX0_preferredRoutes_14 : decode cX0_preferredRoutes 14 = .ok (.if_icmp .ge 80, 3) := by decide +kernel
theorem dX0_preferredRoutes_17 : decode cX0_preferredRoutes 17 = .ok (.iload_n 1, 1) := by decide +kernel
theorem dX0_preferredRoutes_18 : decode cX0_preferredRoutes 18 = .ok (.iload 5, 2) := by decide +kernel
theorem dX0_preferredRoutes_20 : decode cX0_preferredRoutes 20 = .ok (.invokestatic 109, 3) := by decide +kernel
theorem dX0_preferredRoutes_23 : decode cX0_preferredRoutes 23 = .ok (.istore 6, 2) := by decide +kernel
theorem dX0_preferredRoutes_25 : decode cX0_preferredRoutes 25 = .ok (.aload_n 0, 1) := by decide +kernel
theorem dX0_preferredRoutes_26 : decode cX0_preferredRoutes 26 = .ok (.getfield 28, 3) := by decide +kernel
theorem dX0_preferredRoutes_29 : decode cX0_preferredRoutes 29 = .ok (.iload 6, 2) := by decide +kernel
theorem dX0_preferredRoutes_31 : decode cX0_preferredRoutes 31 = .ok (.iaload, 1) := by decide +kernel
theorem dX0_preferredRoutes_32 : decode cX0_preferredRoutes 32 = .ok (.iload_n 2, 1) := by decide +kernel
theorem dX0_preferredRoutes_33 : decode cX0_preferredRoutes 33 = .ok (.if_icmp .ne 55, 3) := by decide +kernel
theorem dX0_preferredRoutes_36 : decode cX0_preferredRoutes 36 = .ok (.aload_n 0, 1) := by decide +kernel
theorem dX0_preferredRoutes_37 : decode cX0_preferredRoutes 37 = .ok (.getfield 19, 3) := by decide +kernel
theorem dX0_preferredRoutes_40 : decode cX0_preferredRoutes 40 = .ok (.iload 5, 2) := by decide +kernel
theorem dX0_preferredRoutes_42 : decode cX0_preferredRoutes 42 = .ok (.iaload, 1) := by decide +kernel
theorem dX0_preferredRoutes_43 : decode cX0_preferredRoutes 43 = .ok (.ifCond .eq 45, 3) := by decide +kernel
theorem dX0_preferredRoutes_46 : decode cX0_preferredRoutes 46 = .ok (.aload_n 0, 1) := by decide +kernel
theorem dX0_preferredRoutes_47 : decode cX0_preferredRoutes 47 = .ok (.getfield 31, 3) := by decide +kernel
theorem dX0_preferredRoutes_50 : decode cX0_preferredRoutes 50 = .ok (.iload 6, 2) := by decide +kernel
theorem dX0_preferredRoutes_52 : decode cX0_preferredRoutes 52 = .ok (.iaload, 1) := by decide +kernel
theorem dX0_preferredRoutes_53 : decode cX0_preferredRoutes 53 = .ok (.iload_n 3, 1) := by decide +kernel
theorem dX0_preferredRoutes_54 : decode cX0_preferredRoutes 54 = .ok (.if_icmp .gt 34, 3) := by decide +kernel
theorem dX0_preferredRoutes_57 : decode cX0_preferredRoutes 57 = .ok (.aload_n 0, 1) := by decide +kernel
theorem dX0_preferredRoutes_58 : decode cX0_preferredRoutes 58 = .ok (.getfield 31, 3) := by decide +kernel
theorem dX0_preferredRoutes_61 : decode cX0_preferredRoutes 61 = .ok (.iload 6, 2) := by decide +kernel
theorem dX0_preferredRoutes_63 : decode cX0_preferredRoutes 63 = .ok (.iaload, 1) := by decide +kernel
theorem dX0_preferredRoutes_64 : decode cX0_preferredRoutes 64 = .ok (.iload_n 3, 1) := by decide +kernel
theorem dX0_preferredRoutes_65 : decode cX0_preferredRoutes 65 = .ok (.if_icmp .ge 6, 3) := by decide +kernel
theorem dX0_preferredRoutes_68 : decode cX0_preferredRoutes 68 = .ok (.iconst 0, 1) := by decide +kernel
theorem dX0_preferredRoutes_69 : decode cX0_preferredRoutes 69 = .ok (.istore 4, 2) := by decide +kernel
theorem dX0_preferredRoutes_71 : decode cX0_preferredRoutes 71 = .ok (.aload_n 0, 1) := by decide +kernel
theorem dX0_preferredRoutes_72 : decode cX0_preferredRoutes 72 = .ok (.getfield 31, 3) := by decide +kernel
theorem dX0_preferredRoutes_75 : decode cX0_preferredRoutes 75 = .ok (.iload 6, 2) := by decide +kernel
theorem dX0_preferredRoutes_77 : decode cX0_preferredRoutes 77 = .ok (.iaload, 1) := by decide +kernel
theorem dX0_preferredRoutes_78 : decode cX0_preferredRoutes 78 = .ok (.istore_n 3, 1) := by decide +kernel
theorem dX0_preferredRoutes_79 : decode cX0_preferredRoutes 79 = .ok (.iload 4, 2) := by decide +kernel
theorem dX0_preferredRoutes_81 : decode cX0_preferredRoutes 81 = .ok (.iconst 1, 1) := by decide +kernel
theorem dX0_preferredRoutes_82 : decode cX0_preferredRoutes 82 = .ok (.iload 5, 2) := by decide +kernel
theorem dX0_preferredRoutes_84 : decode cX0_preferredRoutes 84 = .ok (.ishl, 1) := by decide +kernel
theorem dX0_preferredRoutes_85 : decode cX0_preferredRoutes 85 = .ok (.ior, 1) := by decide +kernel
theorem dX0_preferredRoutes_86 : decode cX0_preferredRoutes 86 = .ok (.istore 4, 2) := by decide +kernel
theorem dX0_preferredRoutes_88 : decode cX0_preferredRoutes 88 = .ok (.iinc 5 1, 3) := by decide +kernel
theorem dX0_preferredRoutes_91 : decode cX0_preferredRoutes 91 = .ok (.goto (-83), 3) := by decide +kernel
theorem dX0_preferredRoutes_94 : decode cX0_preferredRoutes 94 = .ok (.iload 4, 2) := by decide +kernel
theorem dX0_preferredRoutes_96 : decode cX0_preferredRoutes 96 = .ok (.ireturn, 1) := by decide +kernel
theorem dX0_linkOver_0 : decode cX0_linkOver 0 = .ok (.iload_n 1, 1) := by decide +kernel
theorem dX0_linkOver_1 : decode cX0_linkOver 1 = .ok (.invokestatic 112, 3) := by decide +kernel
theorem dX0_linkOver_4 : decode cX0_linkOver 4 = .ok (.istore_n 3, 1) := by decide +kernel
theorem dX0_linkOver_5 : decode cX0_linkOver 5 = .ok (.iload_n 3, 1) := by decide +kernel
theorem dX0_linkOver_6 : decode cX0_linkOver 6 = .ok (.ifCond .ne 5, 3) := by decide +kernel
theorem dX0_linkOver_9 : decode cX0_linkOver 9 = .ok (.iconst (-1), 1) := by decide +kernel
theorem dX0_linkOver_10 : decode cX0_linkOver 10 = .ok (.ireturn, 1) := by decide +kernel
theorem dX0_linkOver_11 : decode cX0_linkOver 11 = .ok (.iload_n 1, 1) := by decide +kernel
theorem dX0_linkOver_12 : decode cX0_linkOver 12 = .ok (.iload_n 2, 1) := by decide +kernel
theorem dX0_linkOver_13 : decode cX0_linkOver 13 = .ok (.iload_n 3, 1) := by decide +kernel
theorem dX0_linkOver_14 : decode cX0_linkOver 14 = .ok (.irem, 1) := by decide +kernel
theorem dX0_linkOver_15 : decode cX0_linkOver 15 = .ok (.invokestatic 118, 3) := by decide +kernel
theorem dX0_linkOver_18 : decode cX0_linkOver 18 = .ok (.istore 4, 2) := by decide +kernel
theorem dX0_linkOver_20 : decode cX0_linkOver 20 = .ok (.aload_n 0, 1) := by decide +kernel
theorem dX0_linkOver_21 : decode cX0_linkOver 21 = .ok (.getfield 19, 3) := by decide +kernel
theorem dX0_linkOver_24 : decode cX0_linkOver 24 = .ok (.iload 4, 2) := by decide +kernel
theorem dX0_linkOver_26 : decode cX0_linkOver 26 = .ok (.iaload, 1) := by decide +kernel
theorem dX0_linkOver_27 : decode cX0_linkOver 27 = .ok (.invokestatic 112, 3) := by decide +kernel
theorem dX0_linkOver_30 : decode cX0_linkOver 30 = .ok (.istore 5, 2) := by decide +kernel
theorem dX0_linkOver_32 : decode cX0_linkOver 32 = .ok (.iload 5, 2) := by decide +kernel
theorem dX0_linkOver_34 : decode cX0_linkOver 34 = .ok (.ifCond .ne 5, 3) := by decide +kernel
theorem dX0_linkOver_37 : decode cX0_linkOver 37 = .ok (.iconst (-1), 1) := by decide +kernel
theorem dX0_linkOver_38 : decode cX0_linkOver 38 = .ok (.ireturn, 1) := by decide +kernel
theorem dX0_linkOver_39 : decode cX0_linkOver 39 = .ok (.iload 4, 2) := by decide +kernel
theorem dX0_linkOver_41 : decode cX0_linkOver 41 = .ok (.aload_n 0, 1) := by decide +kernel
theorem dX0_linkOver_42 : decode cX0_linkOver 42 = .ok (.getfield 19, 3) := by decide +kernel
theorem dX0_linkOver_45 : decode cX0_linkOver 45 = .ok (.iload 4, 2) := by decide +kernel
theorem dX0_linkOver_47 : decode cX0_linkOver 47 = .ok (.iaload, 1) := by decide +kernel
theorem dX0_linkOver_48 : decode cX0_linkOver 48 = .ok (.iload_n 2, 1) := by decide +kernel
theorem dX0_linkOver_49 : decode cX0_linkOver 49 = .ok (.iload_n 3, 1) := by decide +kernel
theorem dX0_linkOver_50 : decode cX0_linkOver 50 = .ok (.idiv, 1) := by decide +kernel
theorem dX0_linkOver_51 : decode cX0_linkOver 51 = .ok (.iload 5, 2) := by decide +kernel
theorem dX0_linkOver_53 : decode cX0_linkOver 53 = .ok (.irem, 1) := by decide +kernel
theorem dX0_linkOver_54 : decode cX0_linkOver 54 = .ok (.invokestatic 118, 3) := by decide +kernel
theorem dX0_linkOver_57 : decode cX0_linkOver 57 = .ok (.invokestatic 99, 3) := by decide +kernel
theorem dX0_linkOver_60 : decode cX0_linkOver 60 = .ok (.ireturn, 1) := by decide +kernel
theorem dX0_linkOfStream_0 : decode cX0_linkOfStream 0 = .ok (.aload_n 0, 1) := by decide +kernel
theorem dX0_linkOfStream_1 : decode cX0_linkOfStream 1 = .ok (.aload_n 0, 1) := by decide +kernel
theorem dX0_linkOfStream_2 : decode cX0_linkOfStream 2 = .ok (.iload_n 1, 1) := by decide +kernel
theorem dX0_linkOfStream_3 : decode cX0_linkOfStream 3 = .ok (.bipush 16, 2) := by decide +kernel
theorem dX0_linkOfStream_5 : decode cX0_linkOfStream 5 = .ok (.idiv, 1) := by decide +kernel
theorem dX0_linkOfStream_6 : decode cX0_linkOfStream 6 = .ok (.invokevirtual 121, 3) := by decide +kernel
theorem dX0_linkOfStream_9 : decode cX0_linkOfStream 9 = .ok (.iload_n 1, 1) := by decide +kernel
theorem dX0_linkOfStream_10 : decode cX0_linkOfStream 10 = .ok (.bipush 16, 2) := by decide +kernel
theorem dX0_linkOfStream_12 : decode cX0_linkOfStream 12 = .ok (.irem, 1) := by decide +kernel
theorem dX0_linkOfStream_13 : decode cX0_linkOfStream 13 = .ok (.invokevirtual 124, 3) := by decide +kernel
theorem dX0_linkOfStream_16 : decode cX0_linkOfStream 16 = .ok (.ireturn, 1) := by decide +kernel
theorem dX0_countLinksTo_0 : decode cX0_countLinksTo 0 = .ok (.aload_n 0, 1) := by decide +kernel
theorem dX0_countLinksTo_1 : decode cX0_countLinksTo 1 = .ok (.iload_n 1, 1) := by decide +kernel
theorem dX0_countLinksTo_2 : decode cX0_countLinksTo 2 = .ok (.invokevirtual 121, 3) := by decide +kernel
theorem dX0_countLinksTo_5 : decode cX0_countLinksTo 5 = .ok (.istore_n 2, 1) := by decide +kernel
theorem dX0_countLinksTo_6 : decode cX0_countLinksTo 6 = .ok (.iconst 0, 1) := by decide +kernel
theorem dX0_countLinksTo_7 : decode cX0_countLinksTo 7 = .ok (.istore_n 3, 1) := by decide +kernel
theorem dX0_countLinksTo_8 : decode cX0_countLinksTo 8 = .ok (.iconst 0, 1) := by decide +kernel
theorem dX0_countLinksTo_9 : decode cX0_countLinksTo 9 = .ok (.istore 4, 2) := by decide +kernel
theorem dX0_countLinksTo_11 : decode cX0_countLinksTo 11 = .ok (.iload 4, 2) := by decide +kernel
theorem dX0_countLinksTo_13 : decode cX0_countLinksTo 13 = .ok (.bipush 16, 2) := by decide +kernel
theorem dX0_countLinksTo_15 : decode cX0_countLinksTo 15 = .ok (.if_icmp .ge 31, 3) := by decide +kernel
theorem dX0_countLinksTo_18 : decode cX0_countLinksTo 18 = .ok (.aload_n 0, 1) := by decide +kernel
theorem dX0_countLinksTo_19 : decode cX0_countLinksTo 19 = .ok (.iload_n 2, 1) := by decide +kernel
theorem dX0_countLinksTo_20 : decode cX0_countLinksTo 20 = .ok (.iload 4, 2) := by decide +kernel
theorem dX0_countLinksTo_22 : decode cX0_countLinksTo 22 = .ok (.invokevirtual 124, 3) := by decide +kernel
theorem dX0_countLinksTo_25 : decode cX0_countLinksTo 25 = .ok (.istore 5, 2) := by decide +kernel
theorem dX0_countLinksTo_27 : decode cX0_countLinksTo 27 = .ok (.iload 5, 2) := by decide +kernel
theorem dX0_countLinksTo_29 : decode cX0_countLinksTo 29 = .ok (.iconst (-1), 1) := by decide +kernel
theorem dX0_countLinksTo_30 : decode cX0_countLinksTo 30 = .ok (.if_icmp .eq 10, 3) := by decide +kernel
theorem dX0_countLinksTo_33 : decode cX0_countLinksTo 33 = .ok (.iload_n 3, 1) := by decide +kernel
theorem dX0_countLinksTo_34 : decode cX0_countLinksTo 34 = .ok (.iconst 1, 1) := by decide +kernel
theorem dX0_countLinksTo_35 : decode cX0_countLinksTo 35 = .ok (.iload 5, 2) := by decide +kernel
theorem dX0_countLinksTo_37 : decode cX0_countLinksTo 37 = .ok (.ishl, 1) := by decide +kernel
theorem dX0_countLinksTo_38 : decode cX0_countLinksTo 38 = .ok (.ior, 1) := by decide +kernel
theorem dX0_countLinksTo_39 : decode cX0_countLinksTo 39 = .ok (.istore_n 3, 1) := by decide +kernel
theorem dX0_countLinksTo_40 : decode cX0_countLinksTo 40 = .ok (.iinc 4 1, 3) := by decide +kernel
theorem dX0_countLinksTo_43 : decode cX0_countLinksTo 43 = .ok (.goto (-32), 3) := by decide +kernel
theorem dX0_countLinksTo_46 : decode cX0_countLinksTo 46 = .ok (.iload_n 3, 1) := by decide +kernel
theorem dX0_countLinksTo_47 : decode cX0_countLinksTo 47 = .ok (.invokestatic 112, 3) := by decide +kernel
theorem dX0_countLinksTo_50 : decode cX0_countLinksTo 50 = .ok (.ireturn, 1) := by decide +kernel
theorem dX0_listLinks_0 : decode cX0_listLinks 0 = .ok (.iconst 0, 1) := by decide +kernel
theorem dX0_listLinks_1 : decode cX0_listLinks 1 = .ok (.istore_n 2, 1) := by decide +kernel
theorem dX0_listLinks_2 : decode cX0_listLinks 2 = .ok (.iload_n 2, 1) := by decide +kernel
theorem dX0_listLinks_3 : decode cX0_listLinks 3 = .ok (.bipush 96, 2) := by decide +kernel
theorem dX0_listLinks_5 : decode cX0_listLinks 5 = .ok (.if_icmp .ge 17, 3) := by decide +kernel
theorem dX0_listLinks_8 : decode cX0_listLinks 8 = .ok (.aload_n 1, 1) := by decide +kernel
theorem dX0_listLinks_9 : decode cX0_listLinks 9 = .ok (.iload_n 2, 1) := by decide +kernel
theorem dX0_listLinks_10 : decode cX0_listLinks 10 = .ok (.aload_n 0, 1) := by decide +kernel
theorem dX0_listLinks_11 : decode cX0_listLinks 11 = .ok (.iload_n 2, 1) := by decide +kernel
theorem dX0_listLinks_12 : decode cX0_listLinks 12 = .ok (.invokevirtual 127, 3) := by decide +kernel
theorem dX0_listLinks_15 : decode cX0_listLinks 15 = .ok (.iastore, 1) := by decide +kernel
theorem dX0_listLinks_16 : decode cX0_listLinks 16 = .ok (.iinc 2 1, 3) := by decide +kernel
theorem dX0_listLinks_19 : decode cX0_listLinks 19 = .ok (.goto (-17), 3) := by decide +kernel
theorem dX0_listLinks_22 : decode cX0_listLinks 22 = .ok (.return_, 1) := by decide +kernel
theorem dX0_divertMoved_0 : decode cX0_divertMoved 0 = .ok (.aload_n 0, 1) := by decide +kernel
theorem dX0_divertMoved_1 : decode cX0_divertMoved 1 = .ok (.getfield 9, 3) := by decide +kernel
theorem dX0_divertMoved_4 : decode cX0_divertMoved 4 = .ok (.ifCond .ne 5, 3) := by decide +kernel
theorem dX0_divertMoved_7 : decode cX0_divertMoved 7 = .ok (.iconst 0, 1) := by decide +kernel
theorem dX0_divertMoved_8 : decode cX0_divertMoved 8 = .ok (.ireturn, 1) := by decide +kernel
theorem dX0_divertMoved_9 : decode cX0_divertMoved 9 = .ok (.iconst 0, 1) := by decide +kernel
theorem dX0_divertMoved_10 : decode cX0_divertMoved 10 = .ok (.istore_n 2, 1) := by decide +kernel
theorem dX0_divertMoved_11 : decode cX0_divertMoved 11 = .ok (.iconst 0, 1) := by decide +kernel
theorem dX0_divertMoved_12 : decode cX0_divertMoved 12 = .ok (.istore_n 3, 1) := by decide +kernel
theorem dX0_divertMoved_13 : decode cX0_divertMoved 13 = .ok (.iload_n 3, 1) := by decide +kernel
theorem dX0_divertMoved_14 : decode cX0_divertMoved 14 = .ok (.bipush 96, 2) := by decide +kernel
theorem dX0_divertMoved_16 : decode cX0_divertMoved 16 = .ok (.if_icmp .ge 45, 3) := by decide +kernel
theorem dX0_divertMoved_19 : decode cX0_divertMoved 19 = .ok (.aload_n 1, 1) := by decide +kernel
theorem dX0_divertMoved_20 : decode cX0_divertMoved 20 = .ok (.iload_n 3, 1) := by decide +kernel
theorem dX0_divertMoved_21 : decode cX0_divertMoved 21 = .ok (.iaload, 1) := by decide +kernel
theorem dX0_divertMoved_22 : decode cX0_divertMoved 22 = .ok (.iconst (-1), 1) := by decide +kernel
theorem dX0_divertMoved_23 : decode cX0_divertMoved 23 = .ok (.if_icmp .eq 32, 3) := by decide +kernel
theorem dX0_divertMoved_26 : decode cX0_divertMoved 26 = .ok (.aload_n 1, 1) := by decide +kernel
theorem dX0_divertMoved_27 : decode cX0_divertMoved 27 = .ok (.iload_n 3, 1) := by decide +kernel
theorem dX0_divertMoved_28 : decode cX0_divertMoved 28 = .ok (.iaload, 1) := by decide +kernel
theorem dX0_divertMoved_29 : decode cX0_divertMoved 29 = .ok (.aload_n 0, 1) := by decide +kernel
theorem dX0_divertMoved_30 : decode cX0_divertMoved 30 = .ok (.iload_n 3, 1) := by decide +kernel
theorem dX0_divertMoved_31 : decode cX0_divertMoved 31 = .ok (.invokevirtual 127, 3) := by decide +kernel
theorem dX0_divertMoved_34 : decode cX0_divertMoved 34 = .ok (.if_icmp .eq 21, 3) := by decide +kernel
theorem dX0_divertMoved_37 : decode cX0_divertMoved 37 = .ok (.aload_n 0, 1) := by decide +kernel
theorem dX0_divertMoved_38 : decode cX0_divertMoved 38 = .ok (.getfield 34, 3) := by decide +kernel
theorem dX0_divertMoved_41 : decode cX0_divertMoved 41 = .ok (.iload_n 3, 1) := by decide +kernel
theorem dX0_divertMoved_42 : decode cX0_divertMoved 42 = .ok (.aload_n 0, 1) := by decide +kernel
theorem dX0_divertMoved_43 : decode cX0_divertMoved 43 = .ok (.getfield 49, 3) := by decide +kernel
theorem dX0_divertMoved_46 : decode cX0_divertMoved 46 = .ok (.aload_n 0, 1) := by decide +kernel
theorem dX0_divertMoved_47 : decode cX0_divertMoved 47 = .ok (.getfield 9, 3) := by decide +kernel
theorem dX0_divertMoved_50 : decode cX0_divertMoved 50 = .ok (.iadd, 1) := by decide +kernel
theorem dX0_divertMoved_51 : decode cX0_divertMoved 51 = .ok (.iastore, 1) := by decide +kernel
theorem dX0_divertMoved_52 : decode cX0_divertMoved 52 = .ok (.iinc 2 1, 3) := by decide +kernel
theorem dX0_divertMoved_55 : decode cX0_divertMoved 55 = .ok (.iinc 3 1, 3) := by decide +kernel
theorem dX0_divertMoved_58 : decode cX0_divertMoved 58 = .ok (.goto (-45), 3) := by decide +kernel
theorem dX0_divertMoved_61 : decode cX0_divertMoved 61 = .ok (.iload_n 2, 1) := by decide +kernel
theorem dX0_divertMoved_62 : decode cX0_divertMoved 62 = .ok (.ireturn, 1) := by decide +kernel
theorem dX0_accept_0 : decode cX0_accept 0 = .ok (.aload_n 0, 1) := by decide +kernel
theorem dX0_accept_1 : decode cX0_accept 1 = .ok (.getfield 52, 3) := by decide +kernel
theorem dX0_accept_4 : decode cX0_accept 4 = .ok (.istore 4, 2) := by decide +kernel
theorem dX0_accept_6 : decode cX0_accept 6 = .ok (.aload_n 0, 1) := by decide +kernel
theorem dX0_accept_7 : decode cX0_accept 7 = .ok (.dup, 1) := by decide +kernel
theorem dX0_accept_8 : decode cX0_accept 8 = .ok (.getfield 52, 3) := by decide +kernel
theorem dX0_accept_11 : decode cX0_accept 11 = .ok (.iconst 1, 1) := by decide +kernel
theorem dX0_accept_12 : decode cX0_accept 12 = .ok (.iadd, 1) := by decide +kernel
theorem dX0_accept_13 : decode cX0_accept 13 = .ok (.putfield 52, 3) := by decide +kernel
theorem dX0_accept_16 : decode cX0_accept 16 = .ok (.iload_n 1, 1) := by decide +kernel
theorem dX0_accept_17 : decode cX0_accept 17 = .ok (.iload_n 2, 1) := by decide +kernel
theorem dX0_accept_18 : decode cX0_accept 18 = .ok (.invokestatic 130, 3) := by decide +kernel
theorem dX0_accept_21 : decode cX0_accept 21 = .ok (.istore 5, 2) := by decide +kernel
theorem dX0_accept_23 : decode cX0_accept 23 = .ok (.iload 4, 2) := by decide +kernel
theorem dX0_accept_25 : decode cX0_accept 25 = .ok (.iload 5, 2) := by decide +kernel
theorem dX0_accept_27 : decode cX0_accept 27 = .ok (.invokestatic 133, 3) := by decide +kernel
theorem dX0_accept_30 : decode cX0_accept 30 = .ok (.istore 6, 2) := by decide +kernel
theorem dX0_accept_32 : decode cX0_accept 32 = .ok (.aload_n 0, 1) := by decide +kernel
theorem dX0_accept_33 : decode cX0_accept 33 = .ok (.iload 5, 2) := by decide +kernel
theorem dX0_accept_35 : decode cX0_accept 35 = .ok (.invokevirtual 136, 3) := by decide +kernel
theorem dX0_accept_38 : decode cX0_accept 38 = .ok (.ifCond .eq 12, 3) := by decide +kernel
theorem dX0_accept_41 : decode cX0_accept 41 = .ok (.aload_n 0, 1) := by decide +kernel
theorem dX0_accept_42 : decode cX0_accept 42 = .ok (.iload 6, 2) := by decide +kernel
theorem dX0_accept_44 : decode cX0_accept 44 = .ok (.invokevirtual 139, 3) := by decide +kernel
theorem dX0_accept_47 : decode cX0_accept 47 = .ok (.iload 4, 2) := by decide +kernel
theorem dX0_accept_49 : decode cX0_accept 49 = .ok (.ireturn, 1) := by decide +kernel
theorem dX0_accept_50 : decode cX0_accept 50 = .ok (.aload_n 0, 1) := by decide +kernel
theorem dX0_accept_51 : decode cX0_accept 51 = .ok (.iload 5, 2) := by decide +kernel
theorem dX0_accept_53 : decode cX0_accept 53 = .ok (.invokevirtual 127, 3) := by decide +kernel
theorem dX0_accept_56 : decode cX0_accept 56 = .ok (.istore 7, 2) := by decide +kernel
theorem dX0_accept_58 : decode cX0_accept 58 = .ok (.iload 7, 2) := by decide +kernel
theorem dX0_accept_60 : decode cX0_accept 60 = .ok (.iconst (-1), 1) := by decide +kernel
theorem dX0_accept_61 : decode cX0_accept 61 = .ok (.if_icmp .eq 26, 3) := by decide +kernel
theorem dX0_accept_64 : decode cX0_accept 64 = .ok (.aload_n 0, 1) := by decide +kernel
theorem dX0_accept_65 : decode cX0_accept 65 = .ok (.iload 7, 2) := by decide +kernel
theorem dX0_accept_67 : decode cX0_accept 67 = .ok (.invokevirtual 142, 3) := by decide +kernel
theorem dX0_accept_70 : decode cX0_accept 70 = .ok (.iload_n 3, 1) := by decide +kernel
theorem dX0_accept_71 : decode cX0_accept 71 = .ok (.if_icmp .le 16, 3) := by decide +kernel
theorem dX0_accept_74 : decode cX0_accept 74 = .ok (.aload_n 0, 1) := by decide +kernel
theorem dX0_accept_75 : decode cX0_accept 75 = .ok (.dup, 1) := by decide +kernel
theorem dX0_accept_76 : decode cX0_accept 76 = .ok (.getfield 64, 3) := by decide +kernel
theorem dX0_accept_79 : decode cX0_accept 79 = .ok (.iconst 1, 1) := by decide +kernel
theorem dX0_accept_80 : decode cX0_accept 80 = .ok (.iadd, 1) := by decide +kernel
theorem dX0_accept_81 : decode cX0_accept 81 = .ok (.putfield 64, 3) := by decide +kernel
theorem dX0_accept_84 : decode cX0_accept 84 = .ok (.iload 4, 2) := by decide +kernel
theorem dX0_accept_86 : decode cX0_accept 86 = .ok (.ireturn, 1) := by decide +kernel
theorem dX0_accept_87 : decode cX0_accept 87 = .ok (.aload_n 0, 1) := by decide +kernel
theorem dX0_accept_88 : decode cX0_accept 88 = .ok (.iload 6, 2) := by decide +kernel
theorem dX0_accept_90 : decode cX0_accept 90 = .ok (.invokevirtual 102, 3) := by decide +kernel
theorem dX0_accept_93 : decode cX0_accept 93 = .ok (.iload 4, 2) := by decide +kernel
theorem dX0_accept_95 : decode cX0_accept 95 = .ok (.ireturn, 1) := by decide +kernel
theorem dX0_hold_0 : decode cX0_hold 0 = .ok (.aload_n 0, 1) := by decide +kernel
theorem dX0_hold_1 : decode cX0_hold 1 = .ok (.getfield 73, 3) := by decide +kernel
theorem dX0_hold_4 : decode cX0_hold 4 = .ok (.bipush 24, 2) := by decide +kernel
theorem dX0_hold_6 : decode cX0_hold 6 = .ok (.if_icmp .lt 14, 3) := by decide +kernel
theorem dX0_hold_9 : decode cX0_hold 9 = .ok (.aload_n 0, 1) := by decide +kernel
theorem dX0_hold_10 : decode cX0_hold 10 = .ok (.dup, 1) := by decide +kernel
theorem dX0_hold_11 : decode cX0_hold 11 = .ok (.getfield 67, 3) := by decide +kernel
theorem dX0_hold_14 : decode cX0_hold 14 = .ok (.iconst 1, 1) := by decide +kernel
theorem dX0_hold_15 : decode cX0_hold 15 = .ok (.iadd, 1) := by decide +kernel
theorem dX0_hold_16 : decode cX0_hold 16 = .ok (.putfield 67, 3) := by decide +kernel
theorem dX0_hold_19 : decode cX0_hold 19 = .ok (.return_, 1) := by decide +kernel
theorem dX0_hold_20 : decode cX0_hold 20 = .ok (.aload_n 0, 1) := by decide +kernel
theorem dX0_hold_21 : decode cX0_hold 21 = .ok (.getfield 40, 3) := by decide +kernel
theorem dX0_hold_24 : decode cX0_hold 24 = .ok (.aload_n 0, 1) := by decide +kernel
theorem dX0_hold_25 : decode cX0_hold 25 = .ok (.getfield 73, 3) := by decide +kernel
theorem dX0_hold_28 : decode cX0_hold 28 = .ok (.iload_n 1, 1) := by decide +kernel
theorem dX0_hold_29 : decode cX0_hold 29 = .ok (.iastore, 1) := by decide +kernel
theorem dX0_hold_30 : decode cX0_hold 30 = .ok (.aload_n 0, 1) := by decide +kernel
theorem dX0_hold_31 : decode cX0_hold 31 = .ok (.dup, 1) := by decide +kernel
theorem dX0_hold_32 : decode cX0_hold 32 = .ok (.getfield 73, 3) := by decide +kernel
theorem dX0_hold_35 : decode cX0_hold 35 = .ok (.iconst 1, 1) := by decide +kernel
theorem dX0_hold_36 : decode cX0_hold 36 = .ok (.iadd, 1) := by decide +kernel
theorem dX0_hold_37 : decode cX0_hold 37 = .ok (.putfield 73, 3) := by decide +kernel
theorem dX0_hold_40 : decode cX0_hold 40 = .ok (.return_, 1) := by decide +kernel
theorem dX0_dispatch_0 : decode cX0_dispatch 0 = .ok (.aload_n 0, 1) := by decide +kernel
theorem dX0_dispatch_1 : decode cX0_dispatch 1 = .ok (.iload_n 1, 1) := by decide +kernel
theorem dX0_dispatch_2 : decode cX0_dispatch 2 = .ok (.invokestatic 145, 3) := by decide +kernel
theorem dX0_dispatch_5 : decode cX0_dispatch 5 = .ok (.invokevirtual 127, 3) := by decide +kernel
theorem dX0_dispatch_8 : decode cX0_dispatch 8 = .ok (.istore_n 2, 1) := by decide +kernel
theorem dX0_dispatch_9 : decode cX0_dispatch 9 = .ok (.iload_n 2, 1) := by decide +kernel
theorem dX0_dispatch_10 : decode cX0_dispatch 10 = .ok (.iconst (-1), 1) := by decide +kernel
theorem dX0_dispatch_11 : decode cX0_dispatch 11 = .ok (.if_icmp .ne 14, 3) := by decide +kernel
theorem dX0_dispatch_14 : decode cX0_dispatch 14 = .ok (.aload_n 0, 1) := by decide +kernel
theorem dX0_dispatch_15 : decode cX0_dispatch 15 = .ok (.dup, 1) := by decide +kernel
theorem dX0_dispatch_16 : decode cX0_dispatch 16 = .ok (.getfield 61, 3) := by decide +kernel
theorem dX0_dispatch_19 : decode cX0_dispatch 19 = .ok (.iconst 1, 1) := by decide +kernel
theorem dX0_dispatch_20 : decode cX0_dispatch 20 = .ok (.iadd, 1) := by decide +kernel
theorem dX0_dispatch_21 : decode cX0_dispatch 21 = .ok (.putfield 61, 3) := by decide +kernel
theorem dX0_dispatch_24 : decode cX0_dispatch 24 = .ok (.return_, 1) := by decide +kernel
theorem dX0_dispatch_25 : decode cX0_dispatch 25 = .ok (.aload_n 0, 1) := by decide +kernel
theorem dX0_dispatch_26 : decode cX0_dispatch 26 = .ok (.getfield 22, 3) := by decide +kernel
theorem dX0_dispatch_29 : decode cX0_dispatch 29 = .ok (.iload_n 2, 1) := by decide +kernel
theorem dX0_dispatch_30 : decode cX0_dispatch 30 = .ok (.iaload, 1) := by decide +kernel
theorem dX0_dispatch_31 : decode cX0_dispatch 31 = .ok (.istore_n 3, 1) := by decide +kernel
theorem dX0_dispatch_32 : decode cX0_dispatch 32 = .ok (.iload_n 3, 1) := by decide +kernel
theorem dX0_dispatch_33 : decode cX0_dispatch 33 = .ok (.bipush 10, 2) := by decide +kernel
theorem dX0_dispatch_35 : decode cX0_dispatch 35 = .ok (.if_icmp .lt 14, 3) := by decide +kernel
theorem dX0_dispatch_38 : decode cX0_dispatch 38 = .ok (.aload_n 0, 1) := by decide +kernel
theorem dX0_dispatch_39 : decode cX0_dispatch 39 = .ok (.dup, 1) := by decide +kernel
theorem dX0_dispatch_40 : decode cX0_dispatch 40 = .ok (.getfield 67, 3) := by decide +kernel
theorem dX0_dispatch_43 : decode cX0_dispatch 43 = .ok (.iconst 1, 1) := by decide +kernel
theorem dX0_dispatch_44 : decode cX0_dispatch 44 = .ok (.iadd, 1) := by decide +kernel
theorem dX0_dispatch_45 : decode cX0_dispatch 45 = .ok (.putfield 67, 3) := by decide +kernel
theorem dX0_dispatch_48 : decode cX0_dispatch 48 = .ok (.return_, 1) := by decide +kernel
theorem dX0_dispatch_49 : decode cX0_dispatch 49 = .ok (.aload_n 0, 1) := by decide +kernel
theorem dX0_dispatch_50 : decode cX0_dispatch 50 = .ok (.getfield 25, 3) := by decide +kernel
theorem dX0_dispatch_53 : decode cX0_dispatch 53 = .ok (.iload_n 2, 1) := by decide +kernel
theorem dX0_dispatch_54 : decode cX0_dispatch 54 = .ok (.bipush 10, 2) := by decide +kernel
theorem dX0_dispatch_56 : decode cX0_dispatch 56 = .ok (.imul, 1) := by decide +kernel
theorem dX0_dispatch_57 : decode cX0_dispatch 57 = .ok (.iload_n 3, 1) := by decide +kernel
theorem dX0_dispatch_58 : decode cX0_dispatch 58 = .ok (.iadd, 1) := by decide +kernel
theorem dX0_dispatch_59 : decode cX0_dispatch 59 = .ok (.iload_n 1, 1) := by decide +kernel
theorem dX0_dispatch_60 : decode cX0_dispatch 60 = .ok (.iastore, 1) := by decide +kernel
theorem dX0_dispatch_61 : decode cX0_dispatch 61 = .ok (.aload_n 0, 1) := by decide +kernel
theorem dX0_dispatch_62 : decode cX0_dispatch 62 = .ok (.getfield 22, 3) := by decide +kernel
theorem dX0_dispatch_65 : decode cX0_dispatch 65 = .ok (.iload_n 2, 1) := by decide +kernel
theorem dX0_dispatch_66 : decode cX0_dispatch 66 = .ok (.iload_n 3, 1) := by decide +kernel
theorem dX0_dispatch_67 : decode cX0_dispatch 67 = .ok (.iconst 1, 1) := by decide +kernel
theorem dX0_dispatch_68 : decode cX0_dispatch 68 = .ok (.iadd, 1) := by decide +kernel
theorem dX0_dispatch_69 : decode cX0_dispatch 69 = .ok (.iastore, 1) := by decide +kernel
theorem dX0_dispatch_70 : decode cX0_dispatch 70 = .ok (.return_, 1) := by decide +kernel
theorem dX0_releaseHeld_0 : decode cX0_releaseHeld 0 = .ok (.aload_n 0, 1) := by decide +kernel
theorem dX0_releaseHeld_1 : decode cX0_releaseHeld 1 = .ok (.getfield 73, 3) := by decide +kernel
theorem dX0_releaseHeld_4 : decode cX0_releaseHeld 4 = .ok (.istore_n 1, 1) := by decide +kernel
theorem dX0_releaseHeld_5 : decode cX0_releaseHeld 5 = .ok (.iconst 0, 1) := by decide +kernel
theorem dX0_releaseHeld_6 : decode cX0_releaseHeld 6 = .ok (.istore_n 2, 1) := by decide +kernel
theorem dX0_releaseHeld_7 : decode cX0_releaseHeld 7 = .ok (.iconst 0, 1) := by decide +kernel
theorem dX0_releaseHeld_8 : decode cX0_releaseHeld 8 = .ok (.istore_n 3, 1) := by decide +kernel
theorem dX0_releaseHeld_9 : decode cX0_releaseHeld 9 = .ok (.iload_n 3, 1) := by decide +kernel
theorem dX0_releaseHeld_10 : decode cX0_releaseHeld 10 = .ok (.iload_n 1, 1) := by decide +kernel
theorem dX0_releaseHeld_11 : decode cX0_releaseHeld 11 = .ok (.if_icmp .ge 49, 3) := by decide +kernel
theorem dX0_releaseHeld_14 : decode cX0_releaseHeld 14 = .ok (.aload_n 0, 1) := by decide +kernel
theorem dX0_releaseHeld_15 : decode cX0_releaseHeld 15 = .ok (.getfield 40, 3) := by decide +kernel
theorem dX0_releaseHeld_18 : decode cX0_releaseHeld 18 = .ok (.iload_n 3, 1) := by decide +kernel
theorem dX0_releaseHeld_19 : decode cX0_releaseHeld 19 = .ok (.iaload, 1) := by decide +kernel
theorem dX0_releaseHeld_20 : decode cX0_releaseHeld 20 = .ok (.istore 4, 2) := by decide +kernel
theorem dX0_releaseHeld_22 : decode cX0_releaseHeld 22 = .ok (.aload_n 0, 1) := by decide +kernel
theorem dX0_releaseHeld_23 : decode cX0_releaseHeld 23 = .ok (.iload 4, 2) := by decide +kernel
theorem dX0_releaseHeld_25 : decode cX0_releaseHeld 25 = .ok (.invokestatic 145, 3) := by decide +kernel
theorem dX0_releaseHeld_28 : decode cX0_releaseHeld 28 = .ok (.invokevirtual 136, 3) := by decide +kernel
theorem dX0_releaseHeld_31 : decode cX0_releaseHeld 31 = .ok (.ifCond .eq 17, 3) := by decide +kernel
theorem dX0_releaseHeld_34 : decode cX0_releaseHeld 34 = .ok (.aload_n 0, 1) := by decide +kernel
theorem dX0_releaseHeld_35 : decode cX0_releaseHeld 35 = .ok (.getfield 40, 3) := by decide +kernel
theorem dX0_releaseHeld_38 : decode cX0_releaseHeld 38 = .ok (.iload_n 2, 1) := by decide +kernel
theorem dX0_releaseHeld_39 : decode cX0_releaseHeld 39 = .ok (.iload 4, 2) := by decide +kernel
theorem dX0_releaseHeld_41 : decode cX0_releaseHeld 41 = .ok (.iastore, 1) := by decide +kernel
theorem dX0_releaseHeld_42 : decode cX0_releaseHeld 42 = .ok (.iinc 2 1, 3) := by decide +kernel
theorem dX0_releaseHeld_45 : decode cX0_releaseHeld 45 = .ok (.goto 9, 3) := by decide +kernel
theorem dX0_releaseHeld_48 : decode cX0_releaseHeld 48 = .ok (.aload_n 0, 1) := by decide +kernel
theorem dX0_releaseHeld_49 : decode cX0_releaseHeld 49 = .ok (.iload 4, 2) := by decide +kernel
theorem dX0_releaseHeld_51 : decode cX0_releaseHeld 51 = .ok (.invokevirtual 102, 3) := by decide +kernel
theorem dX0_releaseHeld_54 : decode cX0_releaseHeld 54 = .ok (.iinc 3 1, 3) := by decide +kernel
theorem dX0_releaseHeld_57 : decode cX0_releaseHeld 57 = .ok (.goto (-48), 3) := by decide +kernel
theorem dX0_releaseHeld_60 : decode cX0_releaseHeld 60 = .ok (.aload_n 0, 1) := by decide +kernel
theorem dX0_releaseHeld_61 : decode cX0_releaseHeld 61 = .ok (.iload_n 2, 1) := by decide +kernel
theorem dX0_releaseHeld_62 : decode cX0_releaseHeld 62 = .ok (.putfield 73, 3) := by decide +kernel
theorem dX0_releaseHeld_65 : decode cX0_releaseHeld 65 = .ok (.iload_n 1, 1) := by decide +kernel
theorem dX0_releaseHeld_66 : decode cX0_releaseHeld 66 = .ok (.iload_n 2, 1) := by decide +kernel
theorem dX0_releaseHeld_67 : decode cX0_releaseHeld 67 = .ok (.isub, 1) := by decide +kernel
theorem dX0_releaseHeld_68 : decode cX0_releaseHeld 68 = .ok (.ireturn, 1) := by decide +kernel
theorem dX0_deliverOldest_0 : decode cX0_deliverOldest 0 = .ok (.aload_n 0, 1) := by decide +kernel
theorem dX0_deliverOldest_1 : decode cX0_deliverOldest 1 = .ok (.getfield 22, 3) := by decide +kernel
theorem dX0_deliverOldest_4 : decode cX0_deliverOldest 4 = .ok (.iload_n 1, 1) := by decide +kernel
theorem dX0_deliverOldest_5 : decode cX0_deliverOldest 5 = .ok (.iaload, 1) := by decide +kernel
theorem dX0_deliverOldest_6 : decode cX0_deliverOldest 6 = .ok (.istore_n 3, 1) := by decide +kernel
theorem dX0_deliverOldest_7 : decode cX0_deliverOldest 7 = .ok (.iload_n 2, 1) := by decide +kernel
theorem dX0_deliverOldest_8 : decode cX0_deliverOldest 8 = .ok (.iload_n 3, 1) := by decide +kernel
theorem dX0_deliverOldest_9 : decode cX0_deliverOldest 9 = .ok (.invokestatic 80, 3) := by decide +kernel
theorem dX0_deliverOldest_12 : decode cX0_deliverOldest 12 = .ok (.istore 4, 2) := by decide +kernel
theorem dX0_deliverOldest_14 : decode cX0_deliverOldest 14 = .ok (.iload_n 1, 1) := by decide +kernel
theorem dX0_deliverOldest_15 : decode cX0_deliverOldest 15 = .ok (.bipush 10, 2) := by decide +kernel
theorem dX0_deliverOldest_17 : decode cX0_deliverOldest 17 = .ok (.imul, 1) := by decide +kernel
theorem dX0_deliverOldest_18 : decode cX0_deliverOldest 18 = .ok (.istore 5, 2) := by decide +kernel
theorem dX0_deliverOldest_20 : decode cX0_deliverOldest 20 = .ok (.iconst 0, 1) := by decide +kernel
theorem dX0_deliverOldest_21 : decode cX0_deliverOldest 21 = .ok (.istore 6, 2) := by decide +kernel
theorem dX0_deliverOldest_23 : decode cX0_deliverOldest 23 = .ok (.iload 6, 2) := by decide +kernel
theorem dX0_deliverOldest_25 : decode cX0_deliverOldest 25 = .ok (.iload 4, 2) := by decide +kernel
theorem dX0_deliverOldest_27 : decode cX0_deliverOldest 27 = .ok (.if_icmp .ge 23, 3) := by decide +kernel
theorem dX0_deliverOldest_30 : decode cX0_deliverOldest 30 = .ok (.aload_n 0, 1) := by decide +kernel
theorem dX0_deliverOldest_31 : decode cX0_deliverOldest 31 = .ok (.aload_n 0, 1) := by decide +kernel
theorem dX0_deliverOldest_32 : decode cX0_deliverOldest 32 = .ok (.getfield 25, 3) := by decide +kernel
theorem dX0_deliverOldest_35 : decode cX0_deliverOldest 35 = .ok (.iload 5, 2) := by decide +kernel
theorem dX0_deliverOldest_37 : decode cX0_deliverOldest 37 = .ok (.iload 6, 2) := by decide +kernel
theorem dX0_deliverOldest_39 : decode cX0_deliverOldest 39 = .ok (.iadd, 1) := by decide +kernel
theorem dX0_deliverOldest_40 : decode cX0_deliverOldest 40 = .ok (.iaload, 1) := by decide +kernel
theorem dX0_deliverOldest_41 : decode cX0_deliverOldest 41 = .ok (.invokevirtual 148, 3) := by decide +kernel
theorem dX0_deliverOldest_44 : decode cX0_deliverOldest 44 = .ok (.iinc 6 1, 3) := by decide +kernel
theorem dX0_deliverOldest_47 : decode cX0_deliverOldest 47 = .ok (.goto (-24), 3) := by decide +kernel
theorem dX0_deliverOldest_50 : decode cX0_deliverOldest 50 = .ok (.iload 4, 2) := by decide +kernel
theorem dX0_deliverOldest_52 : decode cX0_deliverOldest 52 = .ok (.istore 6, 2) := by decide +kernel
theorem dX0_deliverOldest_54 : decode cX0_deliverOldest 54 = .ok (.iload 6, 2) := by decide +kernel
theorem dX0_deliverOldest_56 : decode cX0_deliverOldest 56 = .ok (.iload_n 3, 1) := by decide +kernel
theorem dX0_deliverOldest_57 : decode cX0_deliverOldest 57 = .ok (.if_icmp .ge 32, 3) := by decide +kernel
theorem dX0_deliverOldest_60 : decode cX0_deliverOldest 60 = .ok (.aload_n 0, 1) := by decide +kernel
theorem dX0_deliverOldest_61 : decode cX0_deliverOldest 61 = .ok (.getfield 25, 3) := by decide +kernel
theorem dX0_deliverOldest_64 : decode cX0_deliverOldest 64 = .ok (.iload 5, 2) := by decide +kernel
theorem dX0_deliverOldest_66 : decode cX0_deliverOldest 66 = .ok (.iload 6, 2) := by decide +kernel
theorem dX0_deliverOldest_68 : decode cX0_deliverOldest 68 = .ok (.iadd, 1) := by decide +kernel
theorem dX0_deliverOldest_69 : decode cX0_deliverOldest 69 = .ok (.iload 4, 2) := by decide +kernel
theorem dX0_deliverOldest_71 : decode cX0_deliverOldest 71 = .ok (.isub, 1) := by decide +kernel
theorem dX0_deliverOldest_72 : decode cX0_deliverOldest 72 = .ok (.aload_n 0, 1) := by decide +kernel
theorem dX0_deliverOldest_73 : decode cX0_deliverOldest 73 = .ok (.getfield 25, 3) := by decide +kernel
theorem dX0_deliverOldest_76 : decode cX0_deliverOldest 76 = .ok (.iload 5, 2) := by decide +kernel
theorem dX0_deliverOldest_78 : decode cX0_deliverOldest 78 = .ok (.iload 6, 2) := by decide +kernel
theorem dX0_deliverOldest_80 : decode cX0_deliverOldest 80 = .ok (.iadd, 1) := by decide +kernel
theorem dX0_deliverOldest_81 : decode cX0_deliverOldest 81 = .ok (.iaload, 1) := by decide +kernel
theorem dX0_deliverOldest_82 : decode cX0_deliverOldest 82 = .ok (.iastore, 1) := by decide +kernel
theorem dX0_deliverOldest_83 : decode cX0_deliverOldest 83 = .ok (.iinc 6 1, 3) := by decide +kernel
theorem dX0_deliverOldest_86 : decode cX0_deliverOldest 86 = .ok (.goto (-32), 3) := by decide +kernel
theorem dX0_deliverOldest_89 : decode cX0_deliverOldest 89 = .ok (.aload_n 0, 1) := by decide +kernel
theorem dX0_deliverOldest_90 : decode cX0_deliverOldest 90 = .ok (.getfield 22, 3) := by decide +kernel
theorem dX0_deliverOldest_93 : decode cX0_deliverOldest 93 = .ok (.iload_n 1, 1) := by decide +kernel
theorem dX0_deliverOldest_94 : decode cX0_deliverOldest 94 = .ok (.iload_n 3, 1) := by decide +kernel
theorem dX0_deliverOldest_95 : decode cX0_deliverOldest 95 = .ok (.iload 4, 2) := by decide +kernel
theorem dX0_deliverOldest_97 : decode cX0_deliverOldest 97 = .ok (.isub, 1) := by decide +kernel
theorem dX0_deliverOldest_98 : decode cX0_deliverOldest 98 = .ok (.iastore, 1) := by decide +kernel
theorem dX0_deliverOldest_99 : decode cX0_deliverOldest 99 = .ok (.iload 4, 2) := by decide +kernel
theorem dX0_deliverOldest_101 : decode cX0_deliverOldest 101 = .ok (.ireturn, 1) := by decide +kernel
theorem dX0_deliver_0 : decode cX0_deliver 0 = .ok (.iload_n 1, 1) := by decide +kernel
theorem dX0_deliver_1 : decode cX0_deliver 1 = .ok (.invokestatic 145, 3) := by decide +kernel
theorem dX0_deliver_4 : decode cX0_deliver 4 = .ok (.istore_n 2, 1) := by decide +kernel
theorem dX0_deliver_5 : decode cX0_deliver 5 = .ok (.iload_n 1, 1) := by decide +kernel
theorem dX0_deliver_6 : decode cX0_deliver 6 = .ok (.invokestatic 151, 3) := by decide +kernel
theorem dX0_deliver_9 : decode cX0_deliver 9 = .ok (.istore_n 3, 1) := by decide +kernel
theorem dX0_deliver_10 : decode cX0_deliver 10 = .ok (.aload_n 0, 1) := by decide +kernel
theorem dX0_deliver_11 : decode cX0_deliver 11 = .ok (.dup, 1) := by decide +kernel
theorem dX0_deliver_12 : decode cX0_deliver 12 = .ok (.getfield 55, 3) := by decide +kernel
theorem dX0_deliver_15 : decode cX0_deliver 15 = .ok (.iconst 1, 1) := by decide +kernel
theorem dX0_deliver_16 : decode cX0_deliver 16 = .ok (.iadd, 1) := by decide +kernel
theorem dX0_deliver_17 : decode cX0_deliver 17 = .ok (.putfield 55, 3) := by decide +kernel
theorem dX0_deliver_20 : decode cX0_deliver 20 = .ok (.iload_n 3, 1) := by decide +kernel
theorem dX0_deliver_21 : decode cX0_deliver 21 = .ok (.aload_n 0, 1) := by decide +kernel
theorem dX0_deliver_22 : decode cX0_deliver 22 = .ok (.getfield 37, 3) := by decide +kernel
theorem dX0_deliver_25 : decode cX0_deliver 25 = .ok (.iload_n 2, 1) := by decide +kernel
theorem dX0_deliver_26 : decode cX0_deliver 26 = .ok (.iaload, 1) := by decide +kernel
theorem dX0_deliver_27 : decode cX0_deliver 27 = .ok (.if_icmp .ge 16, 3) := by decide +kernel
theorem dX0_deliver_30 : decode cX0_deliver 30 = .ok (.aload_n 0, 1) := by decide +kernel
theorem dX0_deliver_31 : decode cX0_deliver 31 = .ok (.dup, 1) := by decide +kernel
theorem dX0_deliver_32 : decode cX0_deliver 32 = .ok (.getfield 58, 3) := by decide +kernel
theorem dX0_deliver_35 : decode cX0_deliver 35 = .ok (.iconst 1, 1) := by decide +kernel
theorem dX0_deliver_36 : decode cX0_deliver 36 = .ok (.iadd, 1) := by decide +kernel
theorem dX0_deliver_37 : decode cX0_deliver 37 = .ok (.putfield 58, 3) := by decide +kernel
theorem dX0_deliver_40 : decode cX0_deliver 40 = .ok (.goto 10, 3) := by decide +kernel
theorem dX0_deliver_43 : decode cX0_deliver 43 = .ok (.aload_n 0, 1) := by decide +kernel
theorem dX0_deliver_44 : decode cX0_deliver 44 = .ok (.getfield 37, 3) := by decide +kernel
theorem dX0_deliver_47 : decode cX0_deliver 47 = .ok (.iload_n 2, 1) := by decide +kernel
theorem dX0_deliver_48 : decode cX0_deliver 48 = .ok (.iload_n 3, 1) := by decide +kernel
theorem dX0_deliver_49 : decode cX0_deliver 49 = .ok (.iastore, 1) := by decide +kernel
theorem dX0_deliver_50 : decode cX0_deliver 50 = .ok (.return_, 1) := by decide +kernel
theorem dX0_mixCounters_0 : decode cX0_mixCounters 0 = .ok (.lload_n 1, 1) := by decide +kernel
theorem dX0_mixCounters_1 : decode cX0_mixCounters 1 = .ok (.aload_n 0, 1) := by decide +kernel
theorem dX0_mixCounters_2 : decode cX0_mixCounters 2 = .ok (.getfield 49, 3) := by decide +kernel
theorem dX0_mixCounters_5 : decode cX0_mixCounters 5 = .ok (.invokestatic 154, 3) := by decide +kernel
theorem dX0_mixCounters_8 : decode cX0_mixCounters 8 = .ok (.lstore_n 3, 1) := by decide +kernel
theorem dX0_mixCounters_9 : decode cX0_mixCounters 9 = .ok (.lload_n 3, 1) := by decide +kernel
theorem dX0_mixCounters_10 : decode cX0_mixCounters 10 = .ok (.aload_n 0, 1) := by decide +kernel
theorem dX0_mixCounters_11 : decode cX0_mixCounters 11 = .ok (.getfield 9, 3) := by decide +kernel
theorem dX0_mixCounters_14 : decode cX0_mixCounters 14 = .ok (.invokestatic 154, 3) := by decide +kernel
theorem dX0_mixCounters_17 : decode cX0_mixCounters 17 = .ok (.lstore_n 3, 1) := by decide +kernel
theorem dX0_mixCounters_18 : decode cX0_mixCounters 18 = .ok (.lload_n 3, 1) := by decide +kernel
theorem dX0_mixCounters_19 : decode cX0_mixCounters 19 = .ok (.aload_n 0, 1) := by decide +kernel
theorem dX0_mixCounters_20 : decode cX0_mixCounters 20 = .ok (.getfield 52, 3) := by decide +kernel
theorem dX0_mixCounters_23 : decode cX0_mixCounters 23 = .ok (.invokestatic 154, 3) := by decide +kernel
theorem dX0_mixCounters_26 : decode cX0_mixCounters 26 = .ok (.lstore_n 3, 1) := by decide +kernel
theorem dX0_mixCounters_27 : decode cX0_mixCounters 27 = .ok (.lload_n 3, 1) := by decide +kernel
theorem dX0_mixCounters_28 : decode cX0_mixCounters 28 = .ok (.aload_n 0, 1) := by decide +kernel
theorem dX0_mixCounters_29 : decode cX0_mixCounters 29 = .ok (.getfield 55, 3) := by decide +kernel
theorem dX0_mixCounters_32 : decode cX0_mixCounters 32 = .ok (.invokestatic 154, 3) := by decide +kernel
theorem dX0_mixCounters_35 : decode cX0_mixCounters 35 = .ok (.lstore_n 3, 1) := by decide +kernel
theorem dX0_mixCounters_36 : decode cX0_mixCounters 36 = .ok (.lload_n 3, 1) := by decide +kernel
theorem dX0_mixCounters_37 : decode cX0_mixCounters 37 = .ok (.aload_n 0, 1) := by decide +kernel
theorem dX0_mixCounters_38 : decode cX0_mixCounters 38 = .ok (.getfield 58, 3) := by decide +kernel
theorem dX0_mixCounters_41 : decode cX0_mixCounters 41 = .ok (.invokestatic 154, 3) := by decide +kernel
theorem dX0_mixCounters_44 : decode cX0_mixCounters 44 = .ok (.lstore_n 3, 1) := by decide +kernel
theorem dX0_mixCounters_45 : decode cX0_mixCounters 45 = .ok (.lload_n 3, 1) := by decide +kernel
theorem dX0_mixCounters_46 : decode cX0_mixCounters 46 = .ok (.aload_n 0, 1) := by decide +kernel
theorem dX0_mixCounters_47 : decode cX0_mixCounters 47 = .ok (.getfield 61, 3) := by decide +kernel
theorem dX0_mixCounters_50 : decode cX0_mixCounters 50 = .ok (.invokestatic 154, 3) := by decide +kernel
theorem dX0_mixCounters_53 : decode cX0_mixCounters 53 = .ok (.lstore_n 3, 1) := by decide +kernel
theorem dX0_mixCounters_54 : decode cX0_mixCounters 54 = .ok (.lload_n 3, 1) := by decide +kernel
theorem dX0_mixCounters_55 : decode cX0_mixCounters 55 = .ok (.aload_n 0, 1) := by decide +kernel
theorem dX0_mixCounters_56 : decode cX0_mixCounters 56 = .ok (.getfield 64, 3) := by decide +kernel
theorem dX0_mixCounters_59 : decode cX0_mixCounters 59 = .ok (.invokestatic 154, 3) := by decide +kernel
theorem dX0_mixCounters_62 : decode cX0_mixCounters 62 = .ok (.lstore_n 3, 1) := by decide +kernel
theorem dX0_mixCounters_63 : decode cX0_mixCounters 63 = .ok (.lload_n 3, 1) := by decide +kernel
theorem dX0_mixCounters_64 : decode cX0_mixCounters 64 = .ok (.aload_n 0, 1) := by decide +kernel
theorem dX0_mixCounters_65 : decode cX0_mixCounters 65 = .ok (.getfield 67, 3) := by decide +kernel
theorem dX0_mixCounters_68 : decode cX0_mixCounters 68 = .ok (.invokestatic 154, 3) := by decide +kernel
theorem dX0_mixCounters_71 : decode cX0_mixCounters 71 = .ok (.lreturn, 1) := by decide +kernel
theorem dX0_mixLinksets_0 : decode cX0_mixLinksets 0 = .ok (.lload_n 1, 1) := by decide +kernel
theorem dX0_mixLinksets_1 : decode cX0_mixLinksets 1 = .ok (.aload_n 0, 1) := by decide +kernel
theorem dX0_mixLinksets_2 : decode cX0_mixLinksets 2 = .ok (.getfield 70, 3) := by decide +kernel
theorem dX0_mixLinksets_5 : decode cX0_mixLinksets 5 = .ok (.invokestatic 154, 3) := by decide +kernel
theorem dX0_mixLinksets_8 : decode cX0_mixLinksets 8 = .ok (.lstore_n 3, 1) := by decide +kernel
theorem dX0_mixLinksets_9 : decode cX0_mixLinksets 9 = .ok (.iconst 0, 1) := by decide +kernel
theorem dX0_mixLinksets_10 : decode cX0_mixLinksets 10 = .ok (.istore 5, 2) := by decide +kernel
theorem dX0_mixLinksets_12 : decode cX0_mixLinksets 12 = .ok (.iload 5, 2) := by decide +kernel
theorem dX0_mixLinksets_14 : decode cX0_mixLinksets 14 = .ok (.aload_n 0, 1) := by decide +kernel
theorem dX0_mixLinksets_15 : decode cX0_mixLinksets 15 = .ok (.getfield 70, 3) := by decide +kernel
theorem dX0_mixLinksets_18 : decode cX0_mixLinksets 18 = .ok (.if_icmp .ge 76, 3) := by decide +kernel
theorem dX0_mixLinksets_21 : decode cX0_mixLinksets 21 = .ok (.lload_n 3, 1) := by decide +kernel
theorem dX0_mixLinksets_22 : decode cX0_mixLinksets 22 = .ok (.aload_n 0, 1) := by decide +kernel
theorem dX0_mixLinksets_23 : decode cX0_mixLinksets 23 = .ok (.getfield 15, 3) := by decide +kernel
theorem dX0_mixLinksets_26 : decode cX0_mixLinksets 26 = .ok (.iload 5, 2) := by decide +kernel
theorem dX0_mixLinksets_28 : decode cX0_mixLinksets 28 = .ok (.iaload, 1) := by decide +kernel
theorem dX0_mixLinksets_29 : decode cX0_mixLinksets 29 = .ok (.invokestatic 154, 3) := by decide +kernel
theorem dX0_mixLinksets_32 : decode cX0_mixLinksets 32 = .ok (.lstore_n 3, 1) := by decide +kernel
theorem dX0_mixLinksets_33 : decode cX0_mixLinksets 33 = .ok (.iconst 0, 1) := by decide +kernel
theorem dX0_mixLinksets_34 : decode cX0_mixLinksets 34 = .ok (.istore 6, 2) := by decide +kernel
theorem dX0_mixLinksets_36 : decode cX0_mixLinksets 36 = .ok (.iload 6, 2) := by decide +kernel
theorem dX0_mixLinksets_38 : decode cX0_mixLinksets 38 = .ok (.aload_n 0, 1) := by decide +kernel
theorem dX0_mixLinksets_39 : decode cX0_mixLinksets 39 = .ok (.getfield 15, 3) := by decide +kernel
theorem dX0_mixLinksets_42 : decode cX0_mixLinksets 42 = .ok (.iload 5, 2) := by decide +kernel
theorem dX0_mixLinksets_44 : decode cX0_mixLinksets 44 = .ok (.iaload, 1) := by decide +kernel
theorem dX0_mixLinksets_45 : decode cX0_mixLinksets 45 = .ok (.if_icmp .ge 43, 3) := by decide +kernel
theorem dX0_mixLinksets_48 : decode cX0_mixLinksets 48 = .ok (.lload_n 3, 1) := by decide +kernel
theorem dX0_mixLinksets_49 : decode cX0_mixLinksets 49 = .ok (.aload_n 0, 1) := by decide +kernel
theorem dX0_mixLinksets_50 : decode cX0_mixLinksets 50 = .ok (.iload 5, 2) := by decide +kernel
theorem dX0_mixLinksets_52 : decode cX0_mixLinksets 52 = .ok (.iload 6, 2) := by decide +kernel
theorem dX0_mixLinksets_54 : decode cX0_mixLinksets 54 = .ok (.invokevirtual 158, 3) := by decide +kernel
theorem dX0_mixLinksets_57 : decode cX0_mixLinksets 57 = .ok (.ifCond .eq 7, 3) := by decide +kernel
theorem dX0_mixLinksets_60 : decode cX0_mixLinksets 60 = .ok (.iconst 1, 1) := by decide +kernel
theorem dX0_mixLinksets_61 : decode cX0_mixLinksets 61 = .ok (.goto 4, 3) := by decide +kernel
theorem dX0_mixLinksets_64 : decode cX0_mixLinksets 64 = .ok (.iconst 0, 1) := by decide +kernel
theorem dX0_mixLinksets_65 : decode cX0_mixLinksets 65 = .ok (.invokestatic 154, 3) := by decide +kernel
theorem dX0_mixLinksets_68 : decode cX0_mixLinksets 68 = .ok (.lstore_n 3, 1) := by decide +kernel
theorem dX0_mixLinksets_69 : decode cX0_mixLinksets 69 = .ok (.aload_n 0, 1) := by decide +kernel
theorem dX0_mixLinksets_70 : decode cX0_mixLinksets 70 = .ok (.lload_n 3, 1) := by decide +kernel
theorem dX0_mixLinksets_71 : decode cX0_mixLinksets 71 = .ok (.iload 5, 2) := by decide +kernel
theorem dX0_mixLinksets_73 : decode cX0_mixLinksets 73 = .ok (.iload 6, 2) := by decide +kernel
theorem dX0_mixLinksets_75 : decode cX0_mixLinksets 75 = .ok (.invokestatic 99, 3) := by decide +kernel
theorem dX0_mixLinksets_78 : decode cX0_mixLinksets 78 = .ok (.invokevirtual 162, 3) := by decide +kernel
theorem dX0_mixLinksets_81 : decode cX0_mixLinksets 81 = .ok (.lstore_n 3, 1) := by decide +kernel
theorem dX0_mixLinksets_82 : decode cX0_mixLinksets 82 = .ok (.iinc 6 1, 3) := by decide +kernel
theorem dX0_mixLinksets_85 : decode cX0_mixLinksets 85 = .ok (.goto (-49), 3) := by decide +kernel
theorem dX0_mixLinksets_88 : decode cX0_mixLinksets 88 = .ok (.iinc 5 1, 3) := by decide +kernel
theorem dX0_mixLinksets_91 : decode cX0_mixLinksets 91 = .ok (.goto (-79), 3) := by decide +kernel
theorem dX0_mixLinksets_94 : decode cX0_mixLinksets 94 = .ok (.lload_n 3, 1) := by decide +kernel
theorem dX0_mixLinksets_95 : decode cX0_mixLinksets 95 = .ok (.lreturn, 1) := by decide +kernel
theorem dX0_mixQueue_0 : decode cX0_mixQueue 0 = .ok (.lload_n 1, 1) := by decide +kernel
theorem dX0_mixQueue_1 : decode cX0_mixQueue 1 = .ok (.aload_n 0, 1) := by decide +kernel
theorem dX0_mixQueue_2 : decode cX0_mixQueue 2 = .ok (.getfield 22, 3) := by decide +kernel
theorem dX0_mixQueue_5 : decode cX0_mixQueue 5 = .ok (.iload_n 3, 1) := by decide +kernel
theorem dX0_mixQueue_6 : decode cX0_mixQueue 6 = .ok (.iaload, 1) := by decide +kernel
theorem dX0_mixQueue_7 : decode cX0_mixQueue 7 = .ok (.invokestatic 154, 3) := by decide +kernel
theorem dX0_mixQueue_10 : decode cX0_mixQueue 10 = .ok (.lstore 4, 2) := by decide +kernel
theorem dX0_mixQueue_12 : decode cX0_mixQueue 12 = .ok (.iconst 0, 1) := by decide +kernel
theorem dX0_mixQueue_13 : decode cX0_mixQueue 13 = .ok (.istore 6, 2) := by decide +kernel
theorem dX0_mixQueue_15 : decode cX0_mixQueue 15 = .ok (.iload 6, 2) := by decide +kernel
theorem dX0_mixQueue_17 : decode cX0_mixQueue 17 = .ok (.aload_n 0, 1) := by decide +kernel
theorem dX0_mixQueue_18 : decode cX0_mixQueue 18 = .ok (.getfield 22, 3) := by decide +kernel
theorem dX0_mixQueue_21 : decode cX0_mixQueue 21 = .ok (.iload_n 3, 1) := by decide +kernel
theorem dX0_mixQueue_22 : decode cX0_mixQueue 22 = .ok (.iaload, 1) := by decide +kernel
theorem dX0_mixQueue_23 : decode cX0_mixQueue 23 = .ok (.if_icmp .ge 31, 3) := by decide +kernel
theorem dX0_mixQueue_26 : decode cX0_mixQueue 26 = .ok (.lload 4, 2) := by decide +kernel
theorem dX0_mixQueue_28 : decode cX0_mixQueue 28 = .ok (.aload_n 0, 1) := by decide +kernel
theorem dX0_mixQueue_29 : decode cX0_mixQueue 29 = .ok (.getfield 25, 3) := by decide +kernel
theorem dX0_mixQueue_32 : decode cX0_mixQueue 32 = .ok (.iload_n 3, 1) := by decide +kernel
theorem dX0_mixQueue_33 : decode cX0_mixQueue 33 = .ok (.bipush 10, 2) := by decide +kernel
theorem dX0_mixQueue_35 : decode cX0_mixQueue 35 = .ok (.imul, 1) := by decide +kernel
theorem dX0_mixQueue_36 : decode cX0_mixQueue 36 = .ok (.iload 6, 2) := by decide +kernel
theorem dX0_mixQueue_38 : decode cX0_mixQueue 38 = .ok (.iadd, 1) := by decide +kernel
theorem dX0_mixQueue_39 : decode cX0_mixQueue 39 = .ok (.iaload, 1) := by decide +kernel
theorem dX0_mixQueue_40 : decode cX0_mixQueue 40 = .ok (.invokestatic 151, 3) := by decide +kernel
theorem dX0_mixQueue_43 : decode cX0_mixQueue 43 = .ok (.invokestatic 154, 3) := by decide +kernel
theorem dX0_mixQueue_46 : decode cX0_mixQueue 46 = .ok (.lstore 4, 2) := by decide +kernel
theorem dX0_mixQueue_48 : decode cX0_mixQueue 48 = .ok (.iinc 6 1, 3) := by decide +kernel
theorem dX0_mixQueue_51 : decode cX0_mixQueue 51 = .ok (.goto (-36), 3) := by decide +kernel
theorem dX0_mixQueue_54 : decode cX0_mixQueue 54 = .ok (.lload 4, 2) := by decide +kernel
theorem dX0_mixQueue_56 : decode cX0_mixQueue 56 = .ok (.lreturn, 1) := by decide +kernel
theorem dX0_mixDestination_0 : decode cX0_mixDestination 0 = .ok (.lload_n 1, 1) := by decide +kernel
theorem dX0_mixDestination_1 : decode cX0_mixDestination 1 = .ok (.lstore 4, 2) := by decide +kernel
theorem dX0_mixDestination_3 : decode cX0_mixDestination 3 = .ok (.iconst 0, 1) := by decide +kernel
theorem dX0_mixDestination_4 : decode cX0_mixDestination 4 = .ok (.istore 6, 2) := by decide +kernel
theorem dX0_mixDestination_6 : decode cX0_mixDestination 6 = .ok (.iload 6, 2) := by decide +kernel
theorem dX0_mixDestination_8 : decode cX0_mixDestination 8 = .ok (.aload_n 0, 1) := by decide +kernel
theorem dX0_mixDestination_9 : decode cX0_mixDestination 9 = .ok (.getfield 70, 3) := by decide +kernel
theorem dX0_mixDestination_12 : decode cX0_mixDestination 12 = .ok (.if_icmp .ge 45, 3) := by decide +kernel
theorem dX0_mixDestination_15 : decode cX0_mixDestination 15 = .ok (.lload 4, 2) := by decide +kernel
theorem dX0_mixDestination_17 : decode cX0_mixDestination 17 = .ok (.aload_n 0, 1) := by decide +kernel
theorem dX0_mixDestination_18 : decode cX0_mixDestination 18 = .ok (.getfield 28, 3) := by decide +kernel
theorem dX0_mixDestination_21 : decode cX0_mixDestination 21 = .ok (.iload_n 3, 1) := by decide +kernel
theorem dX0_mixDestination_22 : decode cX0_mixDestination 22 = .ok (.iload 6, 2) := by decide +kernel
theorem dX0_mixDestination_24 : decode cX0_mixDestination 24 = .ok (.invokestatic 109, 3) := by decide +kernel
theorem dX0_mixDestination_27 : decode cX0_mixDestination 27 = .ok (.iaload, 1) := by decide +kernel
theorem dX0_mixDestination_28 : decode cX0_mixDestination 28 = .ok (.invokestatic 154, 3) := by decide +kernel
theorem dX0_mixDestination_31 : decode cX0_mixDestination 31 = .ok (.lstore 4, 2) := by decide +kernel
theorem dX0_mixDestination_33 : decode cX0_mixDestination 33 = .ok (.lload 4, 2) := by decide +kernel
theorem dX0_mixDestination_35 : decode cX0_mixDestination 35 = .ok (.aload_n 0, 1) := by decide +kernel
theorem dX0_mixDestination_36 : decode cX0_mixDestination 36 = .ok (.getfield 31, 3) := by decide +kernel
theorem dX0_mixDestination_39 : decode cX0_mixDestination 39 = .ok (.iload_n 3, 1) := by decide +kernel
theorem dX0_mixDestination_40 : decode cX0_mixDestination 40 = .ok (.iload 6, 2) := by decide +kernel
theorem dX0_mixDestination_42 : decode cX0_mixDestination 42 = .ok (.invokestatic 109, 3) := by decide +kernel
theorem dX0_mixDestination_45 : decode cX0_mixDestination 45 = .ok (.iaload, 1) := by decide +kernel
theorem dX0_mixDestination_46 : decode cX0_mixDestination 46 = .ok (.invokestatic 154, 3) := by decide +kernel
theorem dX0_mixDestination_49 : decode cX0_mixDestination 49 = .ok (.lstore 4, 2) := by decide +kernel
theorem dX0_mixDestination_51 : decode cX0_mixDestination 51 = .ok (.iinc 6 1, 3) := by decide +kernel
theorem dX0_mixDestination_54 : decode cX0_mixDestination 54 = .ok (.goto (-48), 3) := by decide +kernel
theorem dX0_mixDestination_57 : decode cX0_mixDestination 57 = .ok (.aload_n 0, 1) := by decide +kernel
theorem dX0_mixDestination_58 : decode cX0_mixDestination 58 = .ok (.iload_n 3, 1) := by decide +kernel
theorem dX0_mixDestination_59 : decode cX0_mixDestination 59 = .ok (.invokevirtual 121, 3) := by decide +kernel
theorem dX0_mixDestination_62 : decode cX0_mixDestination 62 = .ok (.istore 6, 2) := by decide +kernel
theorem dX0_mixDestination_64 : decode cX0_mixDestination 64 = .ok (.iconst 0, 1) := by decide +kernel
theorem dX0_mixDestination_65 : decode cX0_mixDestination 65 = .ok (.istore 7, 2) := by decide +kernel
theorem dX0_mixDestination_67 : decode cX0_mixDestination 67 = .ok (.iload 7, 2) := by decide +kernel
theorem dX0_mixDestination_69 : decode cX0_mixDestination 69 = .ok (.bipush 16, 2) := by decide +kernel
theorem dX0_mixDestination_71 : decode cX0_mixDestination 71 = .ok (.if_icmp .ge 49, 3) := by decide +kernel
theorem dX0_mixDestination_74 : decode cX0_mixDestination 74 = .ok (.lload 4, 2) := by decide +kernel
theorem dX0_mixDestination_76 : decode cX0_mixDestination 76 = .ok (.aload_n 0, 1) := by decide +kernel
theorem dX0_mixDestination_77 : decode cX0_mixDestination 77 = .ok (.iload 6, 2) := by decide +kernel
theorem dX0_mixDestination_79 : decode cX0_mixDestination 79 = .ok (.iload 7, 2) := by decide +kernel
theorem dX0_mixDestination_81 : decode cX0_mixDestination 81 = .ok (.invokevirtual 124, 3) := by decide +kernel
theorem dX0_mixDestination_84 : decode cX0_mixDestination 84 = .ok (.invokestatic 154, 3) := by decide +kernel
theorem dX0_mixDestination_87 : decode cX0_mixDestination 87 = .ok (.lstore 4, 2) := by decide +kernel
theorem dX0_mixDestination_89 : decode cX0_mixDestination 89 = .ok (.lload 4, 2) := by decide +kernel
theorem dX0_mixDestination_91 : decode cX0_mixDestination 91 = .ok (.aload_n 0, 1) := by decide +kernel
theorem dX0_mixDestination_92 : decode cX0_mixDestination 92 = .ok (.iload_n 3, 1) := by decide +kernel
theorem dX0_mixDestination_93 : decode cX0_mixDestination 93 = .ok (.iload 7, 2) := by decide +kernel
theorem dX0_mixDestination_95 : decode cX0_mixDestination 95 = .ok (.invokestatic 130, 3) := by decide +kernel
theorem dX0_mixDestination_98 : decode cX0_mixDestination 98 = .ok (.invokevirtual 136, 3) := by decide +kernel
theorem dX0_mixDestination_101 : decode cX0_mixDestination 101 = .ok (.ifCond .eq 7, 3) := by decide +kernel
theorem dX0_mixDestination_104 : decode cX0_mixDestination 104 = .ok (.iconst 1, 1) := by decide +kernel
theorem dX0_mixDestination_105 : decode cX0_mixDestination 105 = .ok (.goto 4, 3) := by decide +kernel
theorem dX0_mixDestination_108 : decode cX0_mixDestination 108 = .ok (.iconst 0, 1) := by decide +kernel
theorem dX0_mixDestination_109 : decode cX0_mixDestination 109 = .ok (.invokestatic 154, 3) := by decide +kernel
theorem dX0_mixDestination_112 : decode cX0_mixDestination 112 = .ok (.lstore 4, 2) := by decide +kernel
theorem dX0_mixDestination_114 : decode cX0_mixDestination 114 = .ok (.iinc 7 1, 3) := by decide +kernel
theorem dX0_mixDestination_117 : decode cX0_mixDestination 117 = .ok (.goto (-50), 3) := by decide +kernel
theorem dX0_mixDestination_120 : decode cX0_mixDestination 120 = .ok (.lload 4, 2) := by decide +kernel
theorem dX0_mixDestination_122 : decode cX0_mixDestination 122 = .ok (.lreturn, 1) := by decide +kernel
theorem dX0_mixHolding_0 : decode cX0_mixHolding 0 = .ok (.lload_n 1, 1) := by decide +kernel
theorem dX0_mixHolding_1 : decode cX0_mixHolding 1 = .ok (.aload_n 0, 1) := by decide +kernel
theorem dX0_mixHolding_2 : decode cX0_mixHolding 2 = .ok (.getfield 73, 3) := by decide +kernel
theorem dX0_mixHolding_5 : decode cX0_mixHolding 5 = .ok (.invokestatic 154, 3) := by decide +kernel
theorem dX0_mixHolding_8 : decode cX0_mixHolding 8 = .ok (.lstore_n 3, 1) := by decide +kernel
theorem dX0_mixHolding_9 : decode cX0_mixHolding 9 = .ok (.iconst 0, 1) := by decide +kernel
theorem dX0_mixHolding_10 : decode cX0_mixHolding 10 = .ok (.istore 5, 2) := by decide +kernel
theorem dX0_mixHolding_12 : decode cX0_mixHolding 12 = .ok (.iload 5, 2) := by decide +kernel
theorem dX0_mixHolding_14 : decode cX0_mixHolding 14 = .ok (.aload_n 0, 1) := by decide +kernel
theorem dX0_mixHolding_15 : decode cX0_mixHolding 15 = .ok (.getfield 73, 3) := by decide +kernel
theorem dX0_mixHolding_18 : decode cX0_mixHolding 18 = .ok (.if_icmp .ge 24, 3) := by decide +kernel
theorem dX0_mixHolding_21 : decode cX0_mixHolding 21 = .ok (.lload_n 3, 1) := by decide +kernel
theorem dX0_mixHolding_22 : decode cX0_mixHolding 22 = .ok (.aload_n 0, 1) := by decide +kernel
theorem dX0_mixHolding_23 : decode cX0_mixHolding 23 = .ok (.getfield 40, 3) := by decide +kernel
theorem dX0_mixHolding_26 : decode cX0_mixHolding 26 = .ok (.iload 5, 2) := by decide +kernel
theorem dX0_mixHolding_28 : decode cX0_mixHolding 28 = .ok (.iaload, 1) := by decide +kernel
theorem dX0_mixHolding_29 : decode cX0_mixHolding 29 = .ok (.invokestatic 151, 3) := by decide +kernel
theorem dX0_mixHolding_32 : decode cX0_mixHolding 32 = .ok (.invokestatic 154, 3) := by decide +kernel
theorem dX0_mixHolding_35 : decode cX0_mixHolding 35 = .ok (.lstore_n 3, 1) := by decide +kernel
theorem dX0_mixHolding_36 : decode cX0_mixHolding 36 = .ok (.iinc 5 1, 3) := by decide +kernel
theorem dX0_mixHolding_39 : decode cX0_mixHolding 39 = .ok (.goto (-27), 3) := by decide +kernel
theorem dX0_mixHolding_42 : decode cX0_mixHolding 42 = .ok (.lload_n 3, 1) := by decide +kernel
theorem dX0_mixHolding_43 : decode cX0_mixHolding 43 = .ok (.lreturn, 1) := by decide +kernel
theorem dX1_init_0 : decode cX1_init 0 = .ok (.aload_n 0, 1) := by decide +kernel
theorem dX1_init_1 : decode cX1_init 1 = .ok (.invokespecial 3, 3) := by decide +kernel
theorem dX1_init_4 : decode cX1_init 4 = .ok (.aload_n 0, 1) := by decide +kernel
theorem dX1_init_5 : decode cX1_init 5 = .ok (.iconst 4, 1) := by decide +kernel
theorem dX1_init_6 : decode cX1_init 6 = .ok (.anewarray 9, 3) := by decide +kernel
theorem dX1_init_9 : decode cX1_init 9 = .ok (.putfield 11, 3) := by decide +kernel
theorem dX1_init_12 : decode cX1_init 12 = .ok (.iconst 0, 1) := by decide +kernel
theorem dX1_init_13 : decode cX1_init 13 = .ok (.istore_n 1, 1) := by decide +kernel
theorem dX1_init_14 : decode cX1_init 14 = .ok (.iload_n 1, 1) := by decide +kernel
theorem dX1_init_15 : decode cX1_init 15 = .ok (.iconst 4, 1) := by decide +kernel
theorem dX1_init_16 : decode cX1_init 16 = .ok (.if_icmp .ge 22, 3) := by decide +kernel
theorem dX1_init_19 : decode cX1_init 19 = .ok (.aload_n 0, 1) := by decide +kernel
theorem dX1_init_20 : decode cX1_init 20 = .ok (.getfield 11, 3) := by decide +kernel
theorem dX1_init_23 : decode cX1_init 23 = .ok (.iload_n 1, 1) := by decide +kernel
theorem dX1_init_24 : decode cX1_init 24 = .ok (.new 9, 3) := by decide +kernel
theorem dX1_init_27 : decode cX1_init 27 = .ok (.dup, 1) := by decide +kernel
theorem dX1_init_28 : decode cX1_init 28 = .ok (.invokespecial 17, 3) := by decide +kernel
theorem dX1_init_31 : decode cX1_init 31 = .ok (.aastore, 1) := by decide +kernel
theorem dX1_init_32 : decode cX1_init 32 = .ok (.iinc 1 1, 3) := by decide +kernel
theorem dX1_init_35 : decode cX1_init 35 = .ok (.goto (-21), 3) := by decide +kernel
theorem dX1_init_38 : decode cX1_init 38 = .ok (.return_, 1) := by decide +kernel
theorem dX1_save_0 : decode cX1_save 0 = .ok (.aload_n 0, 1) := by decide +kernel
theorem dX1_save_1 : decode cX1_save 1 = .ok (.getfield 11, 3) := by decide +kernel
theorem dX1_save_4 : decode cX1_save 4 = .ok (.aload_n 0, 1) := by decide +kernel
theorem dX1_save_5 : decode cX1_save 5 = .ok (.getfield 18, 3) := by decide +kernel
theorem dX1_save_8 : decode cX1_save 8 = .ok (.aaload, 1) := by decide +kernel
theorem dX1_save_9 : decode cX1_save 9 = .ok (.aload_n 1, 1) := by decide +kernel
theorem dX1_save_10 : decode cX1_save 10 = .ok (.invokevirtual 22, 3) := by decide +kernel
theorem dX1_save_13 : decode cX1_save 13 = .ok (.aload_n 0, 1) := by decide +kernel
theorem dX1_save_14 : decode cX1_save 14 = .ok (.aload_n 0, 1) := by decide +kernel
theorem dX1_save_15 : decode cX1_save 15 = .ok (.getfield 18, 3) := by decide +kernel
theorem dX1_save_18 : decode cX1_save 18 = .ok (.iconst 1, 1) := by decide +kernel
theorem dX1_save_19 : decode cX1_save 19 = .ok (.iadd, 1) := by decide +kernel
theorem dX1_save_20 : decode cX1_save 20 = .ok (.iconst 4, 1) := by decide +kernel
theorem dX1_save_21 : decode cX1_save 21 = .ok (.irem, 1) := by decide +kernel
theorem dX1_save_22 : decode cX1_save 22 = .ok (.putfield 18, 3) := by decide +kernel
theorem dX1_save_25 : decode cX1_save 25 = .ok (.aload_n 0, 1) := by decide +kernel
theorem dX1_save_26 : decode cX1_save 26 = .ok (.aload_n 0, 1) := by decide +kernel
theorem dX1_save_27 : decode cX1_save 27 = .ok (.getfield 26, 3) := by decide +kernel
theorem dX1_save_30 : decode cX1_save 30 = .ok (.iconst 1, 1) := by decide +kernel
theorem dX1_save_31 : decode cX1_save 31 = .ok (.iadd, 1) := by decide +kernel
theorem dX1_save_32 : decode cX1_save 32 = .ok (.iconst 4, 1) := by decide +kernel
theorem dX1_save_33 : decode cX1_save 33 = .ok (.invokestatic 29, 3) := by decide +kernel
theorem dX1_save_36 : decode cX1_save 36 = .ok (.putfield 26, 3) := by decide +kernel
theorem dX1_save_39 : decode cX1_save 39 = .ok (.return_, 1) := by decide +kernel
theorem dX1_takeBackInto_0 : decode cX1_takeBackInto 0 = .ok (.aload_n 0, 1) := by decide +kernel
theorem dX1_takeBackInto_1 : decode cX1_takeBackInto 1 = .ok (.aload_n 0, 1) := by decide +kernel
theorem dX1_takeBackInto_2 : decode cX1_takeBackInto 2 = .ok (.getfield 18, 3) := by decide +kernel
theorem dX1_takeBackInto_5 : decode cX1_takeBackInto 5 = .ok (.iconst 4, 1) := by decide +kernel
theorem dX1_takeBackInto_6 : decode cX1_takeBackInto 6 = .ok (.iadd, 1) := by decide +kernel
theorem dX1_takeBackInto_7 : decode cX1_takeBackInto 7 = .ok (.iconst 1, 1) := by decide +kernel
theorem dX1_takeBackInto_8 : decode cX1_takeBackInto 8 = .ok (.isub, 1) := by decide +kernel
theorem dX1_takeBackInto_9 : decode cX1_takeBackInto 9 = .ok (.iconst 4, 1) := by decide +kernel
theorem dX1_takeBackInto_10 : decode cX1_takeBackInto 10 = .ok (.irem, 1) := by decide +kernel
theorem dX1_takeBackInto_11 : decode cX1_takeBackInto 11 = .ok (.putfield 18, 3) := by decide +kernel
theorem dX1_takeBackInto_14 : decode cX1_takeBackInto 14 = .ok (.aload_n 0, 1) := by decide +kernel
theorem dX1_takeBackInto_15 : decode cX1_takeBackInto 15 = .ok (.dup, 1) := by decide +kernel
theorem dX1_takeBackInto_16 : decode cX1_takeBackInto 16 = .ok (.getfield 26, 3) := by decide +kernel
theorem dX1_takeBackInto_19 : decode cX1_takeBackInto 19 = .ok (.iconst 1, 1) := by decide +kernel
theorem dX1_takeBackInto_20 : decode cX1_takeBackInto 20 = .ok (.isub, 1) := by decide +kernel
theorem dX1_takeBackInto_21 : decode cX1_takeBackInto 21 = .ok (.putfield 26, 3) := by decide +kernel
theorem dX1_takeBackInto_24 : decode cX1_takeBackInto 24 = .ok (.aload_n 1, 1) := by decide +kernel
theorem dX1_takeBackInto_25 : decode cX1_takeBackInto 25 = .ok (.aload_n 0, 1) := by decide +kernel
theorem dX1_takeBackInto_26 : decode cX1_takeBackInto 26 = .ok (.getfield 11, 3) := by decide +kernel
theorem dX1_takeBackInto_29 : decode cX1_takeBackInto 29 = .ok (.aload_n 0, 1) := by decide +kernel
theorem dX1_takeBackInto_30 : decode cX1_takeBackInto 30 = .ok (.getfield 18, 3) := by decide +kernel
theorem dX1_takeBackInto_33 : decode cX1_takeBackInto 33 = .ok (.aaload, 1) := by decide +kernel
theorem dX1_takeBackInto_34 : decode cX1_takeBackInto 34 = .ok (.invokevirtual 22, 3) := by decide +kernel
theorem dX1_takeBackInto_37 : decode cX1_takeBackInto 37 = .ok (.return_, 1) := by decide +kernel
theorem dX2_init_0 : decode cX2_init 0 = .ok (.aload_n 0, 1) := by decide +kernel
theorem dX2_init_1 : decode cX2_init 1 = .ok (.invokespecial 3, 3) := by decide +kernel
theorem dX2_init_4 : decode cX2_init 4 = .ok (.aload_n 0, 1) := by decide +kernel
theorem dX2_init_5 : decode cX2_init 5 = .ok (.new 9, 3) := by decide +kernel
theorem dX2_init_8 : decode cX2_init 8 = .ok (.dup, 1) := by decide +kernel
theorem dX2_init_9 : decode cX2_init 9 = .ok (.invokespecial 11, 3) := by decide +kernel
theorem dX2_init_12 : decode cX2_init 12 = .ok (.putfield 12, 3) := by decide +kernel
theorem dX2_init_15 : decode cX2_init 15 = .ok (.aload_n 0, 1) := by decide +kernel
theorem dX2_init_16 : decode cX2_init 16 = .ok (.new 16, 3) := by decide +kernel
theorem dX2_init_19 : decode cX2_init 19 = .ok (.dup, 1) := by decide +kernel
theorem dX2_init_20 : decode cX2_init 20 = .ok (.invokespecial 18, 3) := by decide +kernel
theorem dX2_init_23 : decode cX2_init 23 = .ok (.putfield 19, 3) := by decide +kernel
theorem dX2_init_26 : decode cX2_init 26 = .ok (.aload_n 0, 1) := by decide +kernel
theorem dX2_init_27 : decode cX2_init 27 = .ok (.bipush 96, 2) := by decide +kernel
theorem dX2_init_29 : decode cX2_init 29 = .ok (.newarray .int, 2) := by decide +kernel
theorem dX2_init_31 : decode cX2_init 31 = .ok (.putfield 23, 3) := by decide +kernel
theorem dX2_init_34 : decode cX2_init 34 = .ok (.return_, 1) := by decide +kernel
theorem dX2_addLinkset_0 : decode cX2_addLinkset 0 = .ok (.iload_n 1, 1) := by decide +kernel
theorem dX2_addLinkset_1 : decode cX2_addLinkset 1 = .ok (.iconst 1, 1) := by decide +kernel
theorem dX2_addLinkset_2 : decode cX2_addLinkset 2 = .ok (.if_icmp .lt 8, 3) := by decide +kernel
theorem dX2_addLinkset_5 : decode cX2_addLinkset 5 = .ok (.iload_n 1, 1) := by decide +kernel
theorem dX2_addLinkset_6 : decode cX2_addLinkset 6 = .ok (.iconst 4, 1) := by decide +kernel
theorem dX2_addLinkset_7 : decode cX2_addLinkset 7 = .ok (.if_icmp .le 8, 3) := by decide +kernel
theorem dX2_addLinkset_10 : decode cX2_addLinkset 10 = .ok (.aload_n 0, 1) := by decide +kernel
theorem dX2_addLinkset_11 : decode cX2_addLinkset 11 = .ok (.invokevirtual 27, 3) := by decide +kernel
theorem dX2_addLinkset_14 : decode cX2_addLinkset 14 = .ok (.ireturn, 1) := by decide +kernel
theorem dX2_addLinkset_15 : decode cX2_addLinkset 15 = .ok (.aload_n 0, 1) := by decide +kernel
theorem dX2_addLinkset_16 : decode cX2_addLinkset 16 = .ok (.getfield 12, 3) := by decide +kernel
theorem dX2_addLinkset_19 : decode cX2_addLinkset 19 = .ok (.getfield 31, 3) := by decide +kernel
theorem dX2_addLinkset_22 : decode cX2_addLinkset 22 = .ok (.iconst 4, 1) := by decide +kernel
theorem dX2_addLinkset_23 : decode cX2_addLinkset 23 = .ok (.if_icmp .lt 8, 3) := by decide +kernel
theorem dX2_addLinkset_26 : decode cX2_addLinkset 26 = .ok (.aload_n 0, 1) := by decide +kernel
theorem dX2_addLinkset_27 : decode cX2_addLinkset 27 = .ok (.invokevirtual 35, 3) := by decide +kernel
theorem dX2_addLinkset_30 : decode cX2_addLinkset 30 = .ok (.ireturn, 1) := by decide +kernel
theorem dX2_addLinkset_31 : decode cX2_addLinkset 31 = .ok (.aload_n 0, 1) := by decide +kernel
theorem dX2_addLinkset_32 : decode cX2_addLinkset 32 = .ok (.getfield 19, 3) := by decide +kernel
theorem dX2_addLinkset_35 : decode cX2_addLinkset 35 = .ok (.aload_n 0, 1) := by decide +kernel
theorem dX2_addLinkset_36 : decode cX2_addLinkset 36 = .ok (.getfield 12, 3) := by decide +kernel
theorem dX2_addLinkset_39 : decode cX2_addLinkset 39 = .ok (.invokevirtual 38, 3) := by decide +kernel
theorem dX2_addLinkset_42 : decode cX2_addLinkset 42 = .ok (.aload_n 0, 1) := by decide +kernel
theorem dX2_addLinkset_43 : decode cX2_addLinkset 43 = .ok (.getfield 12, 3) := by decide +kernel
theorem dX2_addLinkset_46 : decode cX2_addLinkset 46 = .ok (.iload_n 1, 1) := by decide +kernel
theorem dX2_addLinkset_47 : decode cX2_addLinkset 47 = .ok (.invokevirtual 42, 3) := by decide +kernel
theorem dX2_addLinkset_50 : decode cX2_addLinkset 50 = .ok (.ireturn, 1) := by decide +kernel
theorem dX2_failLink_0 : decode cX2_failLink 0 = .ok (.aload_n 0, 1) := by decide +kernel
theorem dX2_failLink_1 : decode cX2_failLink 1 = .ok (.getfield 12, 3) := by decide +kernel
theorem dX2_failLink_4 : decode cX2_failLink 4 = .ok (.iload_n 1, 1) := by decide +kernel
theorem dX2_failLink_5 : decode cX2_failLink 5 = .ok (.iload_n 2, 1) := by decide +kernel
theorem dX2_failLink_6 : decode cX2_failLink 6 = .ok (.invokevirtual 46, 3) := by decide +kernel
theorem dX2_failLink_9 : decode cX2_failLink 9 = .ok (.ifCond .ne 8, 3) := by decide +kernel
theorem dX2_failLink_12 : decode cX2_failLink 12 = .ok (.aload_n 0, 1) := by decide +kernel
theorem dX2_failLink_13 : decode cX2_failLink 13 = .ok (.invokevirtual 27, 3) := by decide +kernel
theorem dX2_failLink_16 : decode cX2_failLink 16 = .ok (.ireturn, 1) := by decide +kernel
theorem dX2_failLink_17 : decode cX2_failLink 17 = .ok (.aload_n 0, 1) := by decide +kernel
theorem dX2_failLink_18 : decode cX2_failLink 18 = .ok (.getfield 12, 3) := by decide +kernel
theorem dX2_failLink_21 : decode cX2_failLink 21 = .ok (.iload_n 1, 1) := by decide +kernel
theorem dX2_failLink_22 : decode cX2_failLink 22 = .ok (.iload_n 2, 1) := by decide +kernel
theorem dX2_failLink_23 : decode cX2_failLink 23 = .ok (.invokevirtual 50, 3) := by decide +kernel
theorem dX2_failLink_26 : decode cX2_failLink 26 = .ok (.ifCond .ne 8, 3) := by decide +kernel
theorem dX2_failLink_29 : decode cX2_failLink 29 = .ok (.aload_n 0, 1) := by decide +kernel
theorem dX2_failLink_30 : decode cX2_failLink 30 = .ok (.invokevirtual 53, 3) := by decide +kernel
theorem dX2_failLink_33 : decode cX2_failLink 33 = .ok (.ireturn, 1) := by decide +kernel
theorem dX2_failLink_34 : decode cX2_failLink 34 = .ok (.aload_n 0, 1) := by decide +kernel
theorem dX2_failLink_35 : decode cX2_failLink 35 = .ok (.getfield 19, 3) := by decide +kernel
