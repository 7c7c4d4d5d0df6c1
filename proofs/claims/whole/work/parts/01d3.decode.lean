theorem dX4_settle_11 : decode cX4_settle 11 = .ok (.invokevirtual 110, 3) := by decide +kernel
theorem dX4_settle_14 : decode cX4_settle 14 = .ok (.ireturn, 1) := by decide +kernel
theorem dX4_fight_0 : decode cX4_fight 0 = .ok (.aload_n 0, 1) := by decide +kernel
theorem dX4_fight_1 : decode cX4_fight 1 = .ok (.invokevirtual 107, 3) := by decide +kernel
theorem dX4_fight_4 : decode cX4_fight 4 = .ok (.aload_n 0, 1) := by decide +kernel
theorem dX4_fight_5 : decode cX4_fight 5 = .ok (.aload_n 0, 1) := by decide +kernel
theorem dX4_fight_6 : decode cX4_fight 6 = .ok (.iload_n 1, 1) := by decide +kernel
theorem dX4_fight_7 : decode cX4_fight 7 = .ok (.invokevirtual 129, 3) := by decide +kernel
theorem dX4_fight_10 : decode cX4_fight 10 = .ok (.invokevirtual 110, 3) := by decide +kernel
theorem dX4_fight_13 : decode cX4_fight 13 = .ok (.ireturn, 1) := by decide +kernel
theorem dX4_swear_0 : decode cX4_swear 0 = .ok (.aload_n 0, 1) := by decide +kernel
theorem dX4_swear_1 : decode cX4_swear 1 = .ok (.invokevirtual 107, 3) := by decide +kernel
theorem dX4_swear_4 : decode cX4_swear 4 = .ok (.aload_n 0, 1) := by decide +kernel
theorem dX4_swear_5 : decode cX4_swear 5 = .ok (.aload_n 0, 1) := by decide +kernel
theorem dX4_swear_6 : decode cX4_swear 6 = .ok (.iload_n 1, 1) := by decide +kernel
theorem dX4_swear_7 : decode cX4_swear 7 = .ok (.invokevirtual 132, 3) := by decide +kernel
theorem dX4_swear_10 : decode cX4_swear 10 = .ok (.invokevirtual 110, 3) := by decide +kernel
theorem dX4_swear_13 : decode cX4_swear 13 = .ok (.ireturn, 1) := by decide +kernel
theorem dX4_pass_0 : decode cX4_pass 0 = .ok (.aload_n 0, 1) := by decide +kernel
theorem dX4_pass_1 : decode cX4_pass 1 = .ok (.invokevirtual 107, 3) := by decide +kernel
theorem dX4_pass_4 : decode cX4_pass 4 = .ok (.aload_n 0, 1) := by decide +kernel
theorem dX4_pass_5 : decode cX4_pass 5 = .ok (.aload_n 0, 1) := by decide +kernel
theorem dX4_pass_6 : decode cX4_pass 6 = .ok (.iload_n 1, 1) := by decide +kernel
theorem dX4_pass_7 : decode cX4_pass 7 = .ok (.invokevirtual 135, 3) := by decide +kernel
theorem dX4_pass_10 : decode cX4_pass 10 = .ok (.invokevirtual 110, 3) := by decide +kernel
theorem dX4_pass_13 : decode cX4_pass 13 = .ok (.ireturn, 1) := by decide +kernel
theorem dX4_parts_0 : decode cX4_parts 0 = .ok (.iconst 0, 1) := by decide +kernel
theorem dX4_parts_1 : decode cX4_parts 1 = .ok (.istore_n 3, 1) := by decide +kernel
theorem dX4_parts_2 : decode cX4_parts 2 = .ok (.iconst 0, 1) := by decide +kernel
theorem dX4_parts_3 : decode cX4_parts 3 = .ok (.istore 4, 2) := by decide +kernel
theorem dX4_parts_5 : decode cX4_parts 5 = .ok (.iload 4, 2) := by decide +kernel
theorem dX4_parts_7 : decode cX4_parts 7 = .ok (.aload_n 0, 1) := by decide +kernel
theorem dX4_parts_8 : decode cX4_parts 8 = .ok (.getfield 7, 3) := by decide +kernel
theorem dX4_parts_11 : decode cX4_parts 11 = .ok (.bipush 47, 2) := by decide +kernel
theorem dX4_parts_13 : decode cX4_parts 13 = .ok (.iaload, 1) := by decide +kernel
theorem dX4_parts_14 : decode cX4_parts 14 = .ok (.if_icmp .ge 148, 3) := by decide +kernel
theorem dX4_parts_17 : decode cX4_parts 17 = .ok (.aload_n 0, 1) := by decide +kernel
theorem dX4_parts_18 : decode cX4_parts 18 = .ok (.iload 4, 2) := by decide +kernel
theorem dX4_parts_20 : decode cX4_parts 20 = .ok (.iconst 0, 1) := by decide +kernel
theorem dX4_parts_21 : decode cX4_parts 21 = .ok (.invokevirtual 41, 3) := by decide +kernel
theorem dX4_parts_24 : decode cX4_parts 24 = .ok (.iload_n 1, 1) := by decide +kernel
theorem dX4_parts_25 : decode cX4_parts 25 = .ok (.if_icmp .eq 14, 3) := by decide +kernel
theorem dX4_parts_28 : decode cX4_parts 28 = .ok (.aload_n 0, 1) := by decide +kernel
theorem dX4_parts_29 : decode cX4_parts 29 = .ok (.iload 4, 2) := by decide +kernel
theorem dX4_parts_31 : decode cX4_parts 31 = .ok (.iconst 1, 1) := by decide +kernel
theorem dX4_parts_32 : decode cX4_parts 32 = .ok (.invokevirtual 41, 3) := by decide +kernel
theorem dX4_parts_35 : decode cX4_parts 35 = .ok (.iload_n 1, 1) := by decide +kernel
theorem dX4_parts_36 : decode cX4_parts 36 = .ok (.if_icmp .ne 7, 3) := by decide +kernel
theorem dX4_parts_39 : decode cX4_parts 39 = .ok (.iconst 1, 1) := by decide +kernel
theorem dX4_parts_40 : decode cX4_parts 40 = .ok (.goto 4, 3) := by decide +kernel
theorem dX4_parts_43 : decode cX4_parts 43 = .ok (.iconst 0, 1) := by decide +kernel
theorem dX4_parts_44 : decode cX4_parts 44 = .ok (.istore 5, 2) := by decide +kernel
theorem dX4_parts_46 : decode cX4_parts 46 = .ok (.iload_n 2, 1) := by decide +kernel
theorem dX4_parts_47 : decode cX4_parts 47 = .ok (.iconst 4, 1) := by decide +kernel
theorem dX4_parts_48 : decode cX4_parts 48 = .ok (.if_icmp .ne 22, 3) := by decide +kernel
theorem dX4_parts_51 : decode cX4_parts 51 = .ok (.aload_n 0, 1) := by decide +kernel
theorem dX4_parts_52 : decode cX4_parts 52 = .ok (.iload 4, 2) := by decide +kernel
theorem dX4_parts_54 : decode cX4_parts 54 = .ok (.iconst 0, 1) := by decide +kernel
theorem dX4_parts_55 : decode cX4_parts 55 = .ok (.invokevirtual 41, 3) := by decide +kernel
theorem dX4_parts_58 : decode cX4_parts 58 = .ok (.iload_n 1, 1) := by decide +kernel
theorem dX4_parts_59 : decode cX4_parts 59 = .ok (.if_icmp .ne 7, 3) := by decide +kernel
theorem dX4_parts_62 : decode cX4_parts 62 = .ok (.iconst 1, 1) := by decide +kernel
theorem dX4_parts_63 : decode cX4_parts 63 = .ok (.goto 78, 3) := by decide +kernel
theorem dX4_parts_66 : decode cX4_parts 66 = .ok (.iconst 0, 1) := by decide +kernel
theorem dX4_parts_67 : decode cX4_parts 67 = .ok (.goto 74, 3) := by decide +kernel
theorem dX4_parts_70 : decode cX4_parts 70 = .ok (.iload_n 2, 1) := by decide +kernel
theorem dX4_parts_71 : decode cX4_parts 71 = .ok (.iconst 5, 1) := by decide +kernel
theorem dX4_parts_72 : decode cX4_parts 72 = .ok (.if_icmp .ne 22, 3) := by decide +kernel
theorem dX4_parts_75 : decode cX4_parts 75 = .ok (.aload_n 0, 1) := by decide +kernel
theorem dX4_parts_76 : decode cX4_parts 76 = .ok (.iload 4, 2) := by decide +kernel
theorem dX4_parts_78 : decode cX4_parts 78 = .ok (.iconst 1, 1) := by decide +kernel
theorem dX4_parts_79 : decode cX4_parts 79 = .ok (.invokevirtual 41, 3) := by decide +kernel
theorem dX4_parts_82 : decode cX4_parts 82 = .ok (.iload_n 1, 1) := by decide +kernel
theorem dX4_parts_83 : decode cX4_parts 83 = .ok (.if_icmp .ne 7, 3) := by decide +kernel
theorem dX4_parts_86 : decode cX4_parts 86 = .ok (.iconst 1, 1) := by decide +kernel
theorem dX4_parts_87 : decode cX4_parts 87 = .ok (.goto 54, 3) := by decide +kernel
theorem dX4_parts_90 : decode cX4_parts 90 = .ok (.iconst 0, 1) := by decide +kernel
theorem dX4_parts_91 : decode cX4_parts 91 = .ok (.goto 50, 3) := by decide +kernel
theorem dX4_parts_94 : decode cX4_parts 94 = .ok (.iload_n 2, 1) := by decide +kernel
theorem dX4_parts_95 : decode cX4_parts 95 = .ok (.bipush 6, 2) := by decide +kernel
theorem dX4_parts_97 : decode cX4_parts 97 = .ok (.if_icmp .ne 23, 3) := by decide +kernel
theorem dX4_parts_100 : decode cX4_parts 100 = .ok (.aload_n 0, 1) := by decide +kernel
theorem dX4_parts_101 : decode cX4_parts 101 = .ok (.iload 4, 2) := by decide +kernel
theorem dX4_parts_103 : decode cX4_parts 103 = .ok (.bipush 6, 2) := by decide +kernel
theorem dX4_parts_105 : decode cX4_parts 105 = .ok (.invokevirtual 41, 3) := by decide +kernel
theorem dX4_parts_108 : decode cX4_parts 108 = .ok (.iload_n 1, 1) := by decide +kernel
theorem dX4_parts_109 : decode cX4_parts 109 = .ok (.if_icmp .ne 7, 3) := by decide +kernel
theorem dX4_parts_112 : decode cX4_parts 112 = .ok (.iconst 1, 1) := by decide +kernel
theorem dX4_parts_113 : decode cX4_parts 113 = .ok (.goto 28, 3) := by decide +kernel
theorem dX4_parts_116 : decode cX4_parts 116 = .ok (.iconst 0, 1) := by decide +kernel
theorem dX4_parts_117 : decode cX4_parts 117 = .ok (.goto 24, 3) := by decide +kernel
theorem dX4_parts_120 : decode cX4_parts 120 = .ok (.iload 5, 2) := by decide +kernel
theorem dX4_parts_122 : decode cX4_parts 122 = .ok (.ifCond .eq 18, 3) := by decide +kernel
theorem dX4_parts_125 : decode cX4_parts 125 = .ok (.aload_n 0, 1) := by decide +kernel
theorem dX4_parts_126 : decode cX4_parts 126 = .ok (.iload 4, 2) := by decide +kernel
theorem dX4_parts_128 : decode cX4_parts 128 = .ok (.iconst 4, 1) := by decide +kernel
theorem dX4_parts_129 : decode cX4_parts 129 = .ok (.invokevirtual 41, 3) := by decide +kernel
theorem dX4_parts_132 : decode cX4_parts 132 = .ok (.iconst 2, 1) := by decide +kernel
theorem dX4_parts_133 : decode cX4_parts 133 = .ok (.if_icmp .ne 7, 3) := by decide +kernel
theorem dX4_parts_136 : decode cX4_parts 136 = .ok (.iconst 1, 1) := by decide +kernel
theorem dX4_parts_137 : decode cX4_parts 137 = .ok (.goto 4, 3) := by decide +kernel
theorem dX4_parts_140 : decode cX4_parts 140 = .ok (.iconst 0, 1) := by decide +kernel
theorem dX4_parts_141 : decode cX4_parts 141 = .ok (.istore 6, 2) := by decide +kernel
theorem dX4_parts_143 : decode cX4_parts 143 = .ok (.iload_n 3, 1) := by decide +kernel
theorem dX4_parts_144 : decode cX4_parts 144 = .ok (.iload 6, 2) := by decide +kernel
theorem dX4_parts_146 : decode cX4_parts 146 = .ok (.ifCond .eq 7, 3) := by decide +kernel
theorem dX4_parts_149 : decode cX4_parts 149 = .ok (.iconst 1, 1) := by decide +kernel
theorem dX4_parts_150 : decode cX4_parts 150 = .ok (.goto 4, 3) := by decide +kernel
theorem dX4_parts_153 : decode cX4_parts 153 = .ok (.iconst 0, 1) := by decide +kernel
theorem dX4_parts_154 : decode cX4_parts 154 = .ok (.iadd, 1) := by decide +kernel
theorem dX4_parts_155 : decode cX4_parts 155 = .ok (.istore_n 3, 1) := by decide +kernel
theorem dX4_parts_156 : decode cX4_parts 156 = .ok (.iinc 4 1, 3) := by decide +kernel
theorem dX4_parts_159 : decode cX4_parts 159 = .ok (.goto (-154), 3) := by decide +kernel
theorem dX4_parts_162 : decode cX4_parts 162 = .ok (.iload_n 3, 1) := by decide +kernel
theorem dX4_parts_163 : decode cX4_parts 163 = .ok (.ireturn, 1) := by decide +kernel
theorem dX4_secondOf_0 : decode cX4_secondOf 0 = .ok (.iconst 0, 1) := by decide +kernel
theorem dX4_secondOf_1 : decode cX4_secondOf 1 = .ok (.istore_n 2, 1) := by decide +kernel
theorem dX4_secondOf_2 : decode cX4_secondOf 2 = .ok (.iconst 0, 1) := by decide +kernel
theorem dX4_secondOf_3 : decode cX4_secondOf 3 = .ok (.istore_n 3, 1) := by decide +kernel
theorem dX4_secondOf_4 : decode cX4_secondOf 4 = .ok (.iload_n 3, 1) := by decide +kernel
theorem dX4_secondOf_5 : decode cX4_secondOf 5 = .ok (.aload_n 0, 1) := by decide +kernel
theorem dX4_secondOf_6 : decode cX4_secondOf 6 = .ok (.getfield 7, 3) := by decide +kernel
theorem dX4_secondOf_9 : decode cX4_secondOf 9 = .ok (.iconst 5, 1) := by decide +kernel
theorem dX4_secondOf_10 : decode cX4_secondOf 10 = .ok (.iaload, 1) := by decide +kernel
theorem dX4_secondOf_11 : decode cX4_secondOf 11 = .ok (.if_icmp .ge 29, 3) := by decide +kernel
theorem dX4_secondOf_14 : decode cX4_secondOf 14 = .ok (.iload_n 2, 1) := by decide +kernel
theorem dX4_secondOf_15 : decode cX4_secondOf 15 = .ok (.aload_n 0, 1) := by decide +kernel
theorem dX4_secondOf_16 : decode cX4_secondOf 16 = .ok (.iload_n 3, 1) := by decide +kernel
theorem dX4_secondOf_17 : decode cX4_secondOf 17 = .ok (.iconst 2, 1) := by decide +kernel
theorem dX4_secondOf_18 : decode cX4_secondOf 18 = .ok (.invokevirtual 37, 3) := by decide +kernel
theorem dX4_secondOf_21 : decode cX4_secondOf 21 = .ok (.iload_n 1, 1) := by decide +kernel
theorem dX4_secondOf_22 : decode cX4_secondOf 22 = .ok (.if_icmp .ne 9, 3) := by decide +kernel
theorem dX4_secondOf_25 : decode cX4_secondOf 25 = .ok (.iconst 1, 1) := by decide +kernel
theorem dX4_secondOf_26 : decode cX4_secondOf 26 = .ok (.iload_n 3, 1) := by decide +kernel
theorem dX4_secondOf_27 : decode cX4_secondOf 27 = .ok (.ishl, 1) := by decide +kernel
theorem dX4_secondOf_28 : decode cX4_secondOf 28 = .ok (.goto 4, 3) := by decide +kernel
theorem dX4_secondOf_31 : decode cX4_secondOf 31 = .ok (.iconst 0, 1) := by decide +kernel
theorem dX4_secondOf_32 : decode cX4_secondOf 32 = .ok (.ior, 1) := by decide +kernel
theorem dX4_secondOf_33 : decode cX4_secondOf 33 = .ok (.istore_n 2, 1) := by decide +kernel
theorem dX4_secondOf_34 : decode cX4_secondOf 34 = .ok (.iinc 3 1, 3) := by decide +kernel
theorem dX4_secondOf_37 : decode cX4_secondOf 37 = .ok (.goto (-33), 3) := by decide +kernel
theorem dX4_secondOf_40 : decode cX4_secondOf 40 = .ok (.iload_n 2, 1) := by decide +kernel
theorem dX4_secondOf_41 : decode cX4_secondOf 41 = .ok (.ireturn, 1) := by decide +kernel
theorem dX4_oathLeft_0 : decode cX4_oathLeft 0 = .ok (.aload_n 0, 1) := by decide +kernel
theorem dX4_oathLeft_1 : decode cX4_oathLeft 1 = .ok (.iload_n 1, 1) := by decide +kernel
theorem dX4_oathLeft_2 : decode cX4_oathLeft 2 = .ok (.iconst 3, 1) := by decide +kernel
theorem dX4_oathLeft_3 : decode cX4_oathLeft 3 = .ok (.invokevirtual 37, 3) := by decide +kernel
theorem dX4_oathLeft_6 : decode cX4_oathLeft 6 = .ok (.aload_n 0, 1) := by decide +kernel
theorem dX4_oathLeft_7 : decode cX4_oathLeft 7 = .ok (.getfield 7, 3) := by decide +kernel
theorem dX4_oathLeft_10 : decode cX4_oathLeft 10 = .ok (.iconst 4, 1) := by decide +kernel
theorem dX4_oathLeft_11 : decode cX4_oathLeft 11 = .ok (.iaload, 1) := by decide +kernel
theorem dX4_oathLeft_12 : decode cX4_oathLeft 12 = .ok (.isub, 1) := by decide +kernel
theorem dX4_oathLeft_13 : decode cX4_oathLeft 13 = .ok (.istore_n 2, 1) := by decide +kernel
theorem dX4_oathLeft_14 : decode cX4_oathLeft 14 = .ok (.iload_n 2, 1) := by decide +kernel
theorem dX4_oathLeft_15 : decode cX4_oathLeft 15 = .ok (.ifCond .ge 7, 3) := by decide +kernel
theorem dX4_oathLeft_18 : decode cX4_oathLeft 18 = .ok (.iconst 0, 1) := by decide +kernel
theorem dX4_oathLeft_19 : decode cX4_oathLeft 19 = .ok (.goto 4, 3) := by decide +kernel
theorem dX4_oathLeft_22 : decode cX4_oathLeft 22 = .ok (.iload_n 2, 1) := by decide +kernel
theorem dX4_oathLeft_23 : decode cX4_oathLeft 23 = .ok (.ireturn, 1) := by decide +kernel
theorem dX4_of_0 : decode cX4_of 0 = .ok (.aload_n 0, 1) := by decide +kernel
theorem dX4_of_1 : decode cX4_of 1 = .ok (.iload_n 1, 1) := by decide +kernel
theorem dX4_of_2 : decode cX4_of 2 = .ok (.invokevirtual 75, 3) := by decide +kernel
theorem dX4_of_5 : decode cX4_of 5 = .ok (.ifCond .ne 5, 3) := by decide +kernel
theorem dX4_of_8 : decode cX4_of 8 = .ok (.iconst (-1), 1) := by decide +kernel
theorem dX4_of_9 : decode cX4_of 9 = .ok (.ireturn, 1) := by decide +kernel
theorem dX4_of_10 : decode cX4_of 10 = .ok (.iload_n 2, 1) := by decide +kernel
theorem dX4_of_11 : decode cX4_of 11 = .ok (.tableswitch 75 0 8 #[49, 49, 49, 56, 62, 62, 62, 62, 69], 49) := by decide +kernel
theorem dX4_of_60 : decode cX4_of 60 = .ok (.aload_n 0, 1) := by decide +kernel
theorem dX4_of_61 : decode cX4_of 61 = .ok (.iload_n 1, 1) := by decide +kernel
theorem dX4_of_62 : decode cX4_of 62 = .ok (.iload_n 2, 1) := by decide +kernel
theorem dX4_of_63 : decode cX4_of 63 = .ok (.invokevirtual 37, 3) := by decide +kernel
theorem dX4_of_66 : decode cX4_of 66 = .ok (.ireturn, 1) := by decide +kernel
theorem dX4_of_67 : decode cX4_of 67 = .ok (.aload_n 0, 1) := by decide +kernel
theorem dX4_of_68 : decode cX4_of 68 = .ok (.iload_n 1, 1) := by decide +kernel
theorem dX4_of_69 : decode cX4_of 69 = .ok (.invokevirtual 138, 3) := by decide +kernel
theorem dX4_of_72 : decode cX4_of 72 = .ok (.ireturn, 1) := by decide +kernel
theorem dX4_of_73 : decode cX4_of 73 = .ok (.aload_n 0, 1) := by decide +kernel
theorem dX4_of_74 : decode cX4_of 74 = .ok (.iload_n 1, 1) := by decide +kernel
theorem dX4_of_75 : decode cX4_of 75 = .ok (.iload_n 2, 1) := by decide +kernel
theorem dX4_of_76 : decode cX4_of 76 = .ok (.invokevirtual 141, 3) := by decide +kernel
theorem dX4_of_79 : decode cX4_of 79 = .ok (.ireturn, 1) := by decide +kernel
theorem dX4_of_80 : decode cX4_of 80 = .ok (.aload_n 0, 1) := by decide +kernel
theorem dX4_of_81 : decode cX4_of 81 = .ok (.iload_n 1, 1) := by decide +kernel
theorem dX4_of_82 : decode cX4_of 82 = .ok (.invokevirtual 144, 3) := by decide +kernel
theorem dX4_of_85 : decode cX4_of 85 = .ok (.ireturn, 1) := by decide +kernel
theorem dX4_of_86 : decode cX4_of 86 = .ok (.bipush (-2), 2) := by decide +kernel
theorem dX4_of_88 : decode cX4_of 88 = .ok (.ireturn, 1) := by decide +kernel
theorem dX4_quarrel_0 : decode cX4_quarrel 0 = .ok (.aload_n 0, 1) := by decide +kernel
theorem dX4_quarrel_1 : decode cX4_quarrel 1 = .ok (.iload_n 1, 1) := by decide +kernel
theorem dX4_quarrel_2 : decode cX4_quarrel 2 = .ok (.invokevirtual 83, 3) := by decide +kernel
theorem dX4_quarrel_5 : decode cX4_quarrel 5 = .ok (.ifCond .ne 5, 3) := by decide +kernel
theorem dX4_quarrel_8 : decode cX4_quarrel 8 = .ok (.iconst (-1), 1) := by decide +kernel
theorem dX4_quarrel_9 : decode cX4_quarrel 9 = .ok (.ireturn, 1) := by decide +kernel
theorem dX4_quarrel_10 : decode cX4_quarrel 10 = .ok (.iload_n 2, 1) := by decide +kernel
theorem dX4_quarrel_11 : decode cX4_quarrel 11 = .ok (.iconst 0, 1) := by decide +kernel
theorem dX4_quarrel_12 : decode cX4_quarrel 12 = .ok (.bipush 7, 2) := by decide +kernel
theorem dX4_quarrel_14 : decode cX4_quarrel 14 = .ok (.invokestatic 33, 3) := by decide +kernel
theorem dX4_quarrel_17 : decode cX4_quarrel 17 = .ok (.ifCond .ne 6, 3) := by decide +kernel
theorem dX4_quarrel_20 : decode cX4_quarrel 20 = .ok (.bipush (-2), 2) := by decide +kernel
theorem dX4_quarrel_22 : decode cX4_quarrel 22 = .ok (.ireturn, 1) := by decide +kernel
theorem dX4_quarrel_23 : decode cX4_quarrel 23 = .ok (.iload_n 2, 1) := by decide +kernel
theorem dX4_quarrel_24 : decode cX4_quarrel 24 = .ok (.iconst 3, 1) := by decide +kernel
theorem dX4_quarrel_25 : decode cX4_quarrel 25 = .ok (.if_icmp .ne 11, 3) := by decide +kernel
theorem dX4_quarrel_28 : decode cX4_quarrel 28 = .ok (.aload_n 0, 1) := by decide +kernel
theorem dX4_quarrel_29 : decode cX4_quarrel 29 = .ok (.iload_n 1, 1) := by decide +kernel
theorem dX4_quarrel_30 : decode cX4_quarrel 30 = .ok (.invokevirtual 58, 3) := by decide +kernel
theorem dX4_quarrel_33 : decode cX4_quarrel 33 = .ok (.goto 24, 3) := by decide +kernel
theorem dX4_quarrel_36 : decode cX4_quarrel 36 = .ok (.iload_n 2, 1) := by decide +kernel
theorem dX4_quarrel_37 : decode cX4_quarrel 37 = .ok (.bipush 7, 2) := by decide +kernel
theorem dX4_quarrel_39 : decode cX4_quarrel 39 = .ok (.if_icmp .ne 12, 3) := by decide +kernel
theorem dX4_quarrel_42 : decode cX4_quarrel 42 = .ok (.aload_n 0, 1) := by decide +kernel
theorem dX4_quarrel_43 : decode cX4_quarrel 43 = .ok (.iload_n 1, 1) := by decide +kernel
theorem dX4_quarrel_44 : decode cX4_quarrel 44 = .ok (.iconst 0, 1) := by decide +kernel
theorem dX4_quarrel_45 : decode cX4_quarrel 45 = .ok (.invokevirtual 66, 3) := by decide +kernel
theorem dX4_quarrel_48 : decode cX4_quarrel 48 = .ok (.goto 9, 3) := by decide +kernel
theorem dX4_quarrel_51 : decode cX4_quarrel 51 = .ok (.aload_n 0, 1) := by decide +kernel
theorem dX4_quarrel_52 : decode cX4_quarrel 52 = .ok (.iload_n 1, 1) := by decide +kernel
theorem dX4_quarrel_53 : decode cX4_quarrel 53 = .ok (.iload_n 2, 1) := by decide +kernel
theorem dX4_quarrel_54 : decode cX4_quarrel 54 = .ok (.invokevirtual 41, 3) := by decide +kernel
theorem dX4_quarrel_57 : decode cX4_quarrel 57 = .ok (.ireturn, 1) := by decide +kernel
theorem dX4_record_0 : decode cX4_record 0 = .ok (.iload_n 1, 1) := by decide +kernel
theorem dX4_record_1 : decode cX4_record 1 = .ok (.iconst 0, 1) := by decide +kernel
theorem dX4_record_2 : decode cX4_record 2 = .ok (.aload_n 0, 1) := by decide +kernel
theorem dX4_record_3 : decode cX4_record 3 = .ok (.getfield 7, 3) := by decide +kernel
theorem dX4_record_6 : decode cX4_record 6 = .ok (.sipush 144, 3) := by decide +kernel
theorem dX4_record_9 : decode cX4_record 9 = .ok (.iaload, 1) := by decide +kernel
theorem dX4_record_10 : decode cX4_record 10 = .ok (.iconst 1, 1) := by decide +kernel
theorem dX4_record_11 : decode cX4_record 11 = .ok (.isub, 1) := by decide +kernel
theorem dX4_record_12 : decode cX4_record 12 = .ok (.invokestatic 33, 3) := by decide +kernel
theorem dX4_record_15 : decode cX4_record 15 = .ok (.ifCond .ne 5, 3) := by decide +kernel
theorem dX4_record_18 : decode cX4_record 18 = .ok (.iconst (-1), 1) := by decide +kernel
theorem dX4_record_19 : decode cX4_record 19 = .ok (.ireturn, 1) := by decide +kernel
theorem dX4_record_20 : decode cX4_record 20 = .ok (.iload_n 2, 1) := by decide +kernel
theorem dX4_record_21 : decode cX4_record 21 = .ok (.iconst 0, 1) := by decide +kernel
theorem dX4_record_22 : decode cX4_record 22 = .ok (.iconst 2, 1) := by decide +kernel
theorem dX4_record_23 : decode cX4_record 23 = .ok (.invokestatic 33, 3) := by decide +kernel
theorem dX4_record_26 : decode cX4_record 26 = .ok (.ifCond .eq 20, 3) := by decide +kernel
theorem dX4_record_29 : decode cX4_record 29 = .ok (.aload_n 0, 1) := by decide +kernel
theorem dX4_record_30 : decode cX4_record 30 = .ok (.getfield 7, 3) := by decide +kernel
theorem dX4_record_33 : decode cX4_record 33 = .ok (.sipush 145, 3) := by decide +kernel
theorem dX4_record_36 : decode cX4_record 36 = .ok (.iconst 3, 1) := by decide +kernel
theorem dX4_record_37 : decode cX4_record 37 = .ok (.iload_n 1, 1) := by decide +kernel
theorem dX4_record_38 : decode cX4_record 38 = .ok (.imul, 1) := by decide +kernel
theorem dX4_record_39 : decode cX4_record 39 = .ok (.iadd, 1) := by decide +kernel
theorem dX4_record_40 : decode cX4_record 40 = .ok (.iload_n 2, 1) := by decide +kernel
theorem dX4_record_41 : decode cX4_record 41 = .ok (.iadd, 1) := by decide +kernel
theorem dX4_record_42 : decode cX4_record 42 = .ok (.iaload, 1) := by decide +kernel
theorem dX4_record_43 : decode cX4_record 43 = .ok (.goto 5, 3) := by decide +kernel
theorem dX4_record_46 : decode cX4_record 46 = .ok (.bipush (-2), 2) := by decide +kernel
theorem dX4_record_48 : decode cX4_record 48 = .ok (.ireturn, 1) := by decide +kernel
theorem dX4_press_0 : decode cX4_press 0 = .ok (.aload_n 0, 1) := by decide +kernel
theorem dX4_press_1 : decode cX4_press 1 = .ok (.iload_n 1, 1) := by decide +kernel
theorem dX4_press_2 : decode cX4_press 2 = .ok (.invokevirtual 58, 3) := by decide +kernel
theorem dX4_press_5 : decode cX4_press 5 = .ok (.iconst 1, 1) := by decide +kernel
theorem dX4_press_6 : decode cX4_press 6 = .ok (.iadd, 1) := by decide +kernel
theorem dX4_press_7 : decode cX4_press 7 = .ok (.aload_n 0, 1) := by decide +kernel
theorem dX4_press_8 : decode cX4_press 8 = .ok (.iload_n 1, 1) := by decide +kernel
theorem dX4_press_9 : decode cX4_press 9 = .ok (.iconst 2, 1) := by decide +kernel
theorem dX4_press_10 : decode cX4_press 10 = .ok (.invokevirtual 41, 3) := by decide +kernel
theorem dX4_press_13 : decode cX4_press 13 = .ok (.imul, 1) := by decide +kernel
theorem dX4_press_14 : decode cX4_press 14 = .ok (.ireturn, 1) := by decide +kernel
theorem dX4_pressing_0 : decode cX4_pressing 0 = .ok (.iconst 0, 1) := by decide +kernel
theorem dX4_pressing_1 : decode cX4_pressing 1 = .ok (.istore_n 2, 1) := by decide +kernel
theorem dX4_pressing_2 : decode cX4_pressing 2 = .ok (.iload_n 2, 1) := by decide +kernel
theorem dX4_pressing_3 : decode cX4_pressing 3 = .ok (.aload_n 0, 1) := by decide +kernel
theorem dX4_pressing_4 : decode cX4_pressing 4 = .ok (.getfield 7, 3) := by decide +kernel
theorem dX4_pressing_7 : decode cX4_pressing 7 = .ok (.bipush 47, 2) := by decide +kernel
theorem dX4_pressing_9 : decode cX4_pressing 9 = .ok (.iaload, 1) := by decide +kernel
theorem dX4_pressing_10 : decode cX4_pressing 10 = .ok (.if_icmp .ge 112, 3) := by decide +kernel
theorem dX4_pressing_13 : decode cX4_pressing 13 = .ok (.iconst 0, 1) := by decide +kernel
theorem dX4_pressing_14 : decode cX4_pressing 14 = .ok (.istore_n 3, 1) := by decide +kernel
theorem dX4_pressing_15 : decode cX4_pressing 15 = .ok (.iconst 0, 1) := by decide +kernel
theorem dX4_pressing_16 : decode cX4_pressing 16 = .ok (.istore 4, 2) := by decide +kernel
theorem dX4_pressing_18 : decode cX4_pressing 18 = .ok (.iload 4, 2) := by decide +kernel
theorem dX4_pressing_20 : decode cX4_pressing 20 = .ok (.aload_n 0, 1) := by decide +kernel
theorem dX4_pressing_21 : decode cX4_pressing 21 = .ok (.getfield 7, 3) := by decide +kernel
theorem dX4_pressing_24 : decode cX4_pressing 24 = .ok (.bipush 47, 2) := by decide +kernel
theorem dX4_pressing_26 : decode cX4_pressing 26 = .ok (.iaload, 1) := by decide +kernel
theorem dX4_pressing_27 : decode cX4_pressing 27 = .ok (.if_icmp .ge 73, 3) := by decide +kernel
theorem dX4_pressing_30 : decode cX4_pressing 30 = .ok (.aload_n 0, 1) := by decide +kernel
theorem dX4_pressing_31 : decode cX4_pressing 31 = .ok (.iload 4, 2) := by decide +kernel
theorem dX4_pressing_33 : decode cX4_pressing 33 = .ok (.invokevirtual 147, 3) := by decide +kernel
theorem dX4_pressing_36 : decode cX4_pressing 36 = .ok (.aload_n 0, 1) := by decide +kernel
theorem dX4_pressing_37 : decode cX4_pressing 37 = .ok (.iload_n 2, 1) := by decide +kernel
theorem dX4_pressing_38 : decode cX4_pressing 38 = .ok (.invokevirtual 147, 3) := by decide +kernel
theorem dX4_pressing_41 : decode cX4_pressing 41 = .ok (.if_icmp .gt 23, 3) := by decide +kernel
theorem dX4_pressing_44 : decode cX4_pressing 44 = .ok (.aload_n 0, 1) := by decide +kernel
theorem dX4_pressing_45 : decode cX4_pressing 45 = .ok (.iload 4, 2) := by decide +kernel
theorem dX4_pressing_47 : decode cX4_pressing 47 = .ok (.invokevirtual 147, 3) := by decide +kernel
theorem dX4_pressing_50 : decode cX4_pressing 50 = .ok (.aload_n 0, 1) := by decide +kernel
theorem dX4_pressing_51 : decode cX4_pressing 51 = .ok (.iload_n 2, 1) := by decide +kernel
theorem dX4_pressing_52 : decode cX4_pressing 52 = .ok (.invokevirtual 147, 3) := by decide +kernel
theorem dX4_pressing_55 : decode cX4_pressing 55 = .ok (.if_icmp .ne 13, 3) := by decide +kernel
theorem dX4_pressing_58 : decode cX4_pressing 58 = .ok (.iload 4, 2) := by decide +kernel
theorem dX4_pressing_60 : decode cX4_pressing 60 = .ok (.iload_n 2, 1) := by decide +kernel
theorem dX4_pressing_61 : decode cX4_pressing 61 = .ok (.if_icmp .ge 7, 3) := by decide +kernel
theorem dX4_pressing_64 : decode cX4_pressing 64 = .ok (.iconst 1, 1) := by decide +kernel
theorem dX4_pressing_65 : decode cX4_pressing 65 = .ok (.goto 4, 3) := by decide +kernel
theorem dX4_pressing_68 : decode cX4_pressing 68 = .ok (.iconst 0, 1) := by decide +kernel
theorem dX4_pressing_69 : decode cX4_pressing 69 = .ok (.istore 5, 2) := by decide +kernel
theorem dX4_pressing_71 : decode cX4_pressing 71 = .ok (.iload_n 3, 1) := by decide +kernel
theorem dX4_pressing_72 : decode cX4_pressing 72 = .ok (.aload_n 0, 1) := by decide +kernel
theorem dX4_pressing_73 : decode cX4_pressing 73 = .ok (.iload 4, 2) := by decide +kernel
theorem dX4_pressing_75 : decode cX4_pressing 75 = .ok (.iconst 4, 1) := by decide +kernel
theorem dX4_pressing_76 : decode cX4_pressing 76 = .ok (.invokevirtual 41, 3) := by decide +kernel
theorem dX4_pressing_79 : decode cX4_pressing 79 = .ok (.ifCond .ne 12, 3) := by decide +kernel
theorem dX4_pressing_82 : decode cX4_pressing 82 = .ok (.iload 5, 2) := by decide +kernel
theorem dX4_pressing_84 : decode cX4_pressing 84 = .ok (.ifCond .eq 7, 3) := by decide +kernel
theorem dX4_pressing_87 : decode cX4_pressing 87 = .ok (.iconst 1, 1) := by decide +kernel
theorem dX4_pressing_88 : decode cX4_pressing 88 = .ok (.goto 4, 3) := by decide +kernel
theorem dX4_pressing_91 : decode cX4_pressing 91 = .ok (.iconst 0, 1) := by decide +kernel
theorem dX4_pressing_92 : decode cX4_pressing 92 = .ok (.iadd, 1) := by decide +kernel
theorem dX4_pressing_93 : decode cX4_pressing 93 = .ok (.istore_n 3, 1) := by decide +kernel
theorem dX4_pressing_94 : decode cX4_pressing 94 = .ok (.iinc 4 1, 3) := by decide +kernel
theorem dX4_pressing_97 : decode cX4_pressing 97 = .ok (.goto (-79), 3) := by decide +kernel
theorem dX4_pressing_100 : decode cX4_pressing 100 = .ok (.aload_n 0, 1) := by decide +kernel
theorem dX4_pressing_101 : decode cX4_pressing 101 = .ok (.iload_n 2, 1) := by decide +kernel
theorem dX4_pressing_102 : decode cX4_pressing 102 = .ok (.iconst 4, 1) := by decide +kernel
theorem dX4_pressing_103 : decode cX4_pressing 103 = .ok (.invokevirtual 41, 3) := by decide +kernel
theorem dX4_pressing_106 : decode cX4_pressing 106 = .ok (.ifCond .ne 10, 3) := by decide +kernel
theorem dX4_pressing_109 : decode cX4_pressing 109 = .ok (.iload_n 3, 1) := by decide +kernel
theorem dX4_pressing_110 : decode cX4_pressing 110 = .ok (.iload_n 1, 1) := by decide +kernel
theorem dX4_pressing_111 : decode cX4_pressing 111 = .ok (.if_icmp .ne 5, 3) := by decide +kernel
theorem dX4_pressing_114 : decode cX4_pressing 114 = .ok (.iload_n 2, 1) := by decide +kernel
theorem dX4_pressing_115 : decode cX4_pressing 115 = .ok (.ireturn, 1) := by decide +kernel
theorem dX4_pressing_116 : decode cX4_pressing 116 = .ok (.iinc 2 1, 3) := by decide +kernel
theorem dX4_pressing_119 : decode cX4_pressing 119 = .ok (.goto (-117), 3) := by decide +kernel
theorem dX4_pressing_122 : decode cX4_pressing 122 = .ok (.iconst (-1), 1) := by decide +kernel
theorem dX4_pressing_123 : decode cX4_pressing 123 = .ok (.ireturn, 1) := by decide +kernel
theorem dX4_insults_0 : decode cX4_insults 0 = .ok (.iload_n 1, 1) := by decide +kernel
theorem dX4_insults_1 : decode cX4_insults 1 = .ok (.iconst 1, 1) := by decide +kernel
theorem dX4_insults_2 : decode cX4_insults 2 = .ok (.bipush 9, 2) := by decide +kernel
theorem dX4_insults_4 : decode cX4_insults 4 = .ok (.invokestatic 33, 3) := by decide +kernel
theorem dX4_insults_7 : decode cX4_insults 7 = .ok (.ifCond .ne 6, 3) := by decide +kernel
theorem dX4_insults_10 : decode cX4_insults 10 = .ok (.bipush (-2), 2) := by decide +kernel
theorem dX4_insults_12 : decode cX4_insults 12 = .ok (.ireturn, 1) := by decide +kernel
theorem dX4_insults_13 : decode cX4_insults 13 = .ok (.iconst 0, 1) := by decide +kernel
theorem dX4_insults_14 : decode cX4_insults 14 = .ok (.istore_n 2, 1) := by decide +kernel
theorem dX4_insults_15 : decode cX4_insults 15 = .ok (.iconst 0, 1) := by decide +kernel
theorem dX4_insults_16 : decode cX4_insults 16 = .ok (.istore_n 3, 1) := by decide +kernel
theorem dX4_insults_17 : decode cX4_insults 17 = .ok (.iload_n 3, 1) := by decide +kernel
theorem dX4_insults_18 : decode cX4_insults 18 = .ok (.aload_n 0, 1) := by decide +kernel
theorem dX4_insults_19 : decode cX4_insults 19 = .ok (.getfield 7, 3) := by decide +kernel
theorem dX4_insults_22 : decode cX4_insults 22 = .ok (.bipush 47, 2) := by decide +kernel
theorem dX4_insults_24 : decode cX4_insults 24 = .ok (.iaload, 1) := by decide +kernel
theorem dX4_insults_25 : decode cX4_insults 25 = .ok (.if_icmp .ge 27, 3) := by decide +kernel
theorem dX4_insults_28 : decode cX4_insults 28 = .ok (.iload_n 2, 1) := by decide +kernel
theorem dX4_insults_29 : decode cX4_insults 29 = .ok (.aload_n 0, 1) := by decide +kernel
theorem dX4_insults_30 : decode cX4_insults 30 = .ok (.iload_n 3, 1) := by decide +kernel
theorem dX4_insults_31 : decode cX4_insults 31 = .ok (.iconst 2, 1) := by decide +kernel
theorem dX4_insults_32 : decode cX4_insults 32 = .ok (.invokevirtual 41, 3) := by decide +kernel
theorem dX4_insults_35 : decode cX4_insults 35 = .ok (.iload_n 1, 1) := by decide +kernel
theorem dX4_insults_36 : decode cX4_insults 36 = .ok (.if_icmp .lt 7, 3) := by decide +kernel
theorem dX4_insults_39 : decode cX4_insults 39 = .ok (.iconst 1, 1) := by decide +kernel
theorem dX4_insults_40 : decode cX4_insults 40 = .ok (.goto 4, 3) := by decide +kernel
theorem dX4_insults_43 : decode cX4_insults 43 = .ok (.iconst 0, 1) := by decide +kernel
theorem dX4_insults_44 : decode cX4_insults 44 = .ok (.iadd, 1) := by decide +kernel
theorem dX4_insults_45 : decode cX4_insults 45 = .ok (.istore_n 2, 1) := by decide +kernel
theorem dX4_insults_46 : decode cX4_insults 46 = .ok (.iinc 3 1, 3) := by decide +kernel
theorem dX4_insults_49 : decode cX4_insults 49 = .ok (.goto (-32), 3) := by decide +kernel
theorem dX4_insults_52 : decode cX4_insults 52 = .ok (.iload_n 2, 1) := by decide +kernel
theorem dX4_insults_53 : decode cX4_insults 53 = .ok (.ireturn, 1) := by decide +kernel
theorem dX4_sworn_0 : decode cX4_sworn 0 = .ok (.iconst 0, 1) := by decide +kernel
theorem dX4_sworn_1 : decode cX4_sworn 1 = .ok (.istore_n 1, 1) := by decide +kernel
theorem dX4_sworn_2 : decode cX4_sworn 2 = .ok (.iconst 0, 1) := by decide +kernel
theorem dX4_sworn_3 : decode cX4_sworn 3 = .ok (.istore_n 2, 1) := by decide +kernel
theorem dX4_sworn_4 : decode cX4_sworn 4 = .ok (.iload_n 2, 1) := by decide +kernel
theorem dX4_sworn_5 : decode cX4_sworn 5 = .ok (.aload_n 0, 1) := by decide +kernel
theorem dX4_sworn_6 : decode cX4_sworn 6 = .ok (.getfield 7, 3) := by decide +kernel
theorem dX4_sworn_9 : decode cX4_sworn 9 = .ok (.iconst 5, 1) := by decide +kernel
theorem dX4_sworn_10 : decode cX4_sworn 10 = .ok (.iaload, 1) := by decide +kernel
theorem dX4_sworn_11 : decode cX4_sworn 11 = .ok (.if_icmp .ge 28, 3) := by decide +kernel
theorem dX4_sworn_14 : decode cX4_sworn 14 = .ok (.iload_n 1, 1) := by decide +kernel
theorem dX4_sworn_15 : decode cX4_sworn 15 = .ok (.aload_n 0, 1) := by decide +kernel
theorem dX4_sworn_16 : decode cX4_sworn 16 = .ok (.iload_n 2, 1) := by decide +kernel
theorem dX4_sworn_17 : decode cX4_sworn 17 = .ok (.iconst 0, 1) := by decide +kernel
theorem dX4_sworn_18 : decode cX4_sworn 18 = .ok (.invokevirtual 50, 3) := by decide +kernel
theorem dX4_sworn_21 : decode cX4_sworn 21 = .ok (.ifCond .eq 9, 3) := by decide +kernel
theorem dX4_sworn_24 : decode cX4_sworn 24 = .ok (.iconst 1, 1) := by decide +kernel
theorem dX4_sworn_25 : decode cX4_sworn 25 = .ok (.iload_n 2, 1) := by decide +kernel
theorem dX4_sworn_26 : decode cX4_sworn 26 = .ok (.ishl, 1) := by decide +kernel
theorem dX4_sworn_27 : decode cX4_sworn 27 = .ok (.goto 4, 3) := by decide +kernel
theorem dX4_sworn_30 : decode cX4_sworn 30 = .ok (.iconst 0, 1) := by decide +kernel
theorem dX4_sworn_31 : decode cX4_sworn 31 = .ok (.ior, 1) := by decide +kernel
theorem dX4_sworn_32 : decode cX4_sworn 32 = .ok (.istore_n 1, 1) := by decide +kernel
theorem dX4_sworn_33 : decode cX4_sworn 33 = .ok (.iinc 2 1, 3) := by decide +kernel
theorem dX4_sworn_36 : decode cX4_sworn 36 = .ok (.goto (-32), 3) := by decide +kernel
theorem dX4_sworn_39 : decode cX4_sworn 39 = .ok (.iload_n 1, 1) := by decide +kernel
theorem dX4_sworn_40 : decode cX4_sworn 40 = .ok (.ireturn, 1) := by decide +kernel
theorem dX4_count_0 : decode cX4_count 0 = .ok (.iload_n 1, 1) := by decide +kernel
theorem dX4_count_1 : decode cX4_count 1 = .ok (.tableswitch 159 0 14 #[75, 82, 89, 97, 103, 108, 117, 126, 134, 139, 139, 139, 139, 149, 154], 75) := by decide +kernel
theorem dX4_count_76 : decode cX4_count 76 = .ok (.aload_n 0, 1) := by decide +kernel
theorem dX4_count_77 : decode cX4_count 77 = .ok (.getfield 7, 3) := by decide +kernel
theorem dX4_count_80 : decode cX4_count 80 = .ok (.iconst 4, 1) := by decide +kernel
theorem dX4_count_81 : decode cX4_count 81 = .ok (.iaload, 1) := by decide +kernel
theorem dX4_count_82 : decode cX4_count 82 = .ok (.ireturn, 1) := by decide +kernel
theorem dX4_count_83 : decode cX4_count 83 = .ok (.aload_n 0, 1) := by decide +kernel
theorem dX4_count_84 : decode cX4_count 84 = .ok (.getfield 7, 3) := by decide +kernel
theorem dX4_count_87 : decode cX4_count 87 = .ok (.iconst 5, 1) := by decide +kernel
theorem dX4_count_88 : decode cX4_count 88 = .ok (.iaload, 1) := by decide +kernel
theorem dX4_count_89 : decode cX4_count 89 = .ok (.ireturn, 1) := by decide +kernel
theorem dX4_count_90 : decode cX4_count 90 = .ok (.aload_n 0, 1) := by decide +kernel
theorem dX4_count_91 : decode cX4_count 91 = .ok (.getfield 7, 3) := by decide +kernel
theorem dX4_count_94 : decode cX4_count 94 = .ok (.bipush 47, 2) := by decide +kernel
theorem dX4_count_96 : decode cX4_count 96 = .ok (.iaload, 1) := by decide +kernel
theorem dX4_count_97 : decode cX4_count 97 = .ok (.ireturn, 1) := by decide +kernel
theorem dX4_count_98 : decode cX4_count 98 = .ok (.aload_n 0, 1) := by decide +kernel
theorem dX4_count_99 : decode cX4_count 99 = .ok (.iconst 0, 1) := by decide +kernel
theorem dX4_count_100 : decode cX4_count 100 = .ok (.invokevirtual 90, 3) := by decide +kernel
theorem dX4_count_103 : decode cX4_count 103 = .ok (.ireturn, 1) := by decide +kernel
theorem dX4_count_104 : decode cX4_count 104 = .ok (.aload_n 0, 1) := by decide +kernel
theorem dX4_count_105 : decode cX4_count 105 = .ok (.invokevirtual 103, 3) := by decide +kernel
theorem dX4_count_108 : decode cX4_count 108 = .ok (.ireturn, 1) := by decide +kernel
theorem dX4_count_109 : decode cX4_count 109 = .ok (.aload_n 0, 1) := by decide +kernel
theorem dX4_count_110 : decode cX4_count 110 = .ok (.iconst 1, 1) := by decide +kernel
theorem dX4_count_111 : decode cX4_count 111 = .ok (.invokevirtual 90, 3) := by decide +kernel
theorem dX4_count_114 : decode cX4_count 114 = .ok (.invokestatic 93, 3) := by decide +kernel
theorem dX4_count_117 : decode cX4_count 117 = .ok (.ireturn, 1) := by decide +kernel
theorem dX4_count_118 : decode cX4_count 118 = .ok (.aload_n 0, 1) := by decide +kernel
theorem dX4_count_119 : decode cX4_count 119 = .ok (.iconst 2, 1) := by decide +kernel
theorem dX4_count_120 : decode cX4_count 120 = .ok (.invokevirtual 90, 3) := by decide +kernel
theorem dX4_count_123 : decode cX4_count 123 = .ok (.invokestatic 93, 3) := by decide +kernel
theorem dX4_count_126 : decode cX4_count 126 = .ok (.ireturn, 1) := by decide +kernel
theorem dX4_count_127 : decode cX4_count 127 = .ok (.aload_n 0, 1) := by decide +kernel
theorem dX4_count_128 : decode cX4_count 128 = .ok (.getfield 7, 3) := by decide +kernel
theorem dX4_count_131 : decode cX4_count 131 = .ok (.bipush 46, 2) := by decide +kernel
theorem dX4_count_133 : decode cX4_count 133 = .ok (.iaload, 1) := by decide +kernel
theorem dX4_count_134 : decode cX4_count 134 = .ok (.ireturn, 1) := by decide +kernel
theorem dX4_count_135 : decode cX4_count 135 = .ok (.aload_n 0, 1) := by decide +kernel
theorem dX4_count_136 : decode cX4_count 136 = .ok (.invokevirtual 150, 3) := by decide +kernel
theorem dX4_count_139 : decode cX4_count 139 = .ok (.ireturn, 1) := by decide +kernel
theorem dX4_count_140 : decode cX4_count 140 = .ok (.aload_n 0, 1) := by decide +kernel
theorem dX4_count_141 : decode cX4_count 141 = .ok (.getfield 7, 3) := by decide +kernel
theorem dX4_count_144 : decode cX4_count 144 = .ok (.iload_n 1, 1) := by decide +kernel
theorem dX4_count_145 : decode cX4_count 145 = .ok (.bipush 9, 2) := by decide +kernel
theorem dX4_count_147 : decode cX4_count 147 = .ok (.isub, 1) := by decide +kernel
theorem dX4_count_148 : decode cX4_count 148 = .ok (.iaload, 1) := by decide +kernel
theorem dX4_count_149 : decode cX4_count 149 = .ok (.ireturn, 1) := by decide +kernel
theorem dX4_count_150 : decode cX4_count 150 = .ok (.aload_n 0, 1) := by decide +kernel
theorem dX4_count_151 : decode cX4_count 151 = .ok (.getfield 153, 3) := by decide +kernel
theorem dX4_count_154 : decode cX4_count 154 = .ok (.ireturn, 1) := by decide +kernel
theorem dX4_count_155 : decode cX4_count 155 = .ok (.aload_n 0, 1) := by decide +kernel
theorem dX4_count_156 : decode cX4_count 156 = .ok (.getfield 29, 3) := by decide +kernel
theorem dX4_count_159 : decode cX4_count 159 = .ok (.ireturn, 1) := by decide +kernel
theorem dX4_count_160 : decode cX4_count 160 = .ok (.bipush (-2), 2) := by decide +kernel
theorem dX4_count_162 : decode cX4_count 162 = .ok (.ireturn, 1) := by decide +kernel
theorem dX4_why_0 : decode cX4_why 0 = .ok (.aload_n 0, 1) := by decide +kernel
theorem dX4_why_1 : decode cX4_why 1 = .ok (.iload_n 1, 1) := by decide +kernel
theorem dX4_why_2 : decode cX4_why 2 = .ok (.invokevirtual 83, 3) := by decide +kernel
theorem dX4_why_5 : decode cX4_why 5 = .ok (.ifCond .eq 12, 3) := by decide +kernel
theorem dX4_why_8 : decode cX4_why 8 = .ok (.aload_n 0, 1) := by decide +kernel
theorem dX4_why_9 : decode cX4_why 9 = .ok (.iload_n 1, 1) := by decide +kernel
theorem dX4_why_10 : decode cX4_why 10 = .ok (.iconst 0, 1) := by decide +kernel
theorem dX4_why_11 : decode cX4_why 11 = .ok (.invokevirtual 72, 3) := by decide +kernel
theorem dX4_why_14 : decode cX4_why 14 = .ok (.goto 4, 3) := by decide +kernel
theorem dX4_why_17 : decode cX4_why 17 = .ok (.iconst (-1), 1) := by decide +kernel
theorem dX4_why_18 : decode cX4_why 18 = .ok (.ireturn, 1) := by decide +kernel
theorem dX4_firstWay_0 : decode cX4_firstWay 0 = .ok (.aload_n 0, 1) := by decide +kernel
theorem dX4_firstWay_1 : decode cX4_firstWay 1 = .ok (.iload_n 1, 1) := by decide +kernel
theorem dX4_firstWay_2 : decode cX4_firstWay 2 = .ok (.invokevirtual 83, 3) := by decide +kernel
theorem dX4_firstWay_5 : decode cX4_firstWay 5 = .ok (.ifCond .ne 5, 3) := by decide +kernel
theorem dX4_firstWay_8 : decode cX4_firstWay 8 = .ok (.iconst (-1), 1) := by decide +kernel
theorem dX4_firstWay_9 : decode cX4_firstWay 9 = .ok (.ireturn, 1) := by decide +kernel
theorem dX4_firstWay_10 : decode cX4_firstWay 10 = .ok (.iconst 0, 1) := by decide +kernel
theorem dX4_firstWay_11 : decode cX4_firstWay 11 = .ok (.istore_n 2, 1) := by decide +kernel
theorem dX4_firstWay_12 : decode cX4_firstWay 12 = .ok (.iload_n 2, 1) := by decide +kernel
theorem dX4_firstWay_13 : decode cX4_firstWay 13 = .ok (.iconst 5, 1) := by decide +kernel
theorem dX4_firstWay_14 : decode cX4_firstWay 14 = .ok (.if_icmp .ge 25, 3) := by decide +kernel
theorem dX4_firstWay_17 : decode cX4_firstWay 17 = .ok (.aload_n 0, 1) := by decide +kernel
theorem dX4_firstWay_18 : decode cX4_firstWay 18 = .ok (.iload_n 1, 1) := by decide +kernel
theorem dX4_firstWay_19 : decode cX4_firstWay 19 = .ok (.iconst 0, 1) := by decide +kernel
theorem dX4_firstWay_20 : decode cX4_firstWay 20 = .ok (.invokevirtual 66, 3) := by decide +kernel
theorem dX4_firstWay_23 : decode cX4_firstWay 23 = .ok (.iload_n 2, 1) := by decide +kernel
theorem dX4_firstWay_24 : decode cX4_firstWay 24 = .ok (.ishr, 1) := by decide +kernel
theorem dX4_firstWay_25 : decode cX4_firstWay 25 = .ok (.iconst 1, 1) := by decide +kernel
theorem dX4_firstWay_26 : decode cX4_firstWay 26 = .ok (.iand, 1) := by decide +kernel
theorem dX4_firstWay_27 : decode cX4_firstWay 27 = .ok (.iconst 1, 1) := by decide +kernel
theorem dX4_firstWay_28 : decode cX4_firstWay 28 = .ok (.if_icmp .ne 5, 3) := by decide +kernel
theorem dX4_firstWay_31 : decode cX4_firstWay 31 = .ok (.iload_n 2, 1) := by decide +kernel
theorem dX4_firstWay_32 : decode cX4_firstWay 32 = .ok (.ireturn, 1) := by decide +kernel
theorem dX4_firstWay_33 : decode cX4_firstWay 33 = .ok (.iinc 2 1, 3) := by decide +kernel
theorem dX4_firstWay_36 : decode cX4_firstWay 36 = .ok (.goto (-24), 3) := by decide +kernel
theorem dX4_firstWay_39 : decode cX4_firstWay 39 = .ok (.bipush (-6), 2) := by decide +kernel
theorem dX4_firstWay_41 : decode cX4_firstWay 41 = .ok (.ireturn, 1) := by decide +kernel
theorem dX4_opensIn_0 : decode cX4_opensIn 0 = .ok (.aload_n 0, 1) := by decide +kernel
theorem dX4_opensIn_1 : decode cX4_opensIn 1 = .ok (.iload_n 1, 1) := by decide +kernel
theorem dX4_opensIn_2 : decode cX4_opensIn 2 = .ok (.invokevirtual 83, 3) := by decide +kernel
theorem dX4_opensIn_5 : decode cX4_opensIn 5 = .ok (.ifCond .ne 5, 3) := by decide +kernel
theorem dX4_opensIn_8 : decode cX4_opensIn 8 = .ok (.iconst (-1), 1) := by decide +kernel
theorem dX4_opensIn_9 : decode cX4_opensIn 9 = .ok (.ireturn, 1) := by decide +kernel
theorem dX4_opensIn_10 : decode cX4_opensIn 10 = .ok (.aload_n 0, 1) := by decide +kernel
theorem dX4_opensIn_11 : decode cX4_opensIn 11 = .ok (.iload_n 1, 1) := by decide +kernel
theorem dX4_opensIn_12 : decode cX4_opensIn 12 = .ok (.iconst 4, 1) := by decide +kernel
theorem dX4_opensIn_13 : decode cX4_opensIn 13 = .ok (.invokevirtual 41, 3) := by decide +kernel
theorem dX4_opensIn_16 : decode cX4_opensIn 16 = .ok (.ifCond .eq 6, 3) := by decide +kernel
theorem dX4_opensIn_19 : decode cX4_opensIn 19 = .ok (.bipush (-5), 2) := by decide +kernel
theorem dX4_opensIn_21 : decode cX4_opensIn 21 = .ok (.ireturn, 1) := by decide +kernel
theorem dX4_opensIn_22 : decode cX4_opensIn 22 = .ok (.iconst 0, 1) := by decide +kernel
theorem dX4_opensIn_23 : decode cX4_opensIn 23 = .ok (.istore_n 2, 1) := by decide +kernel
theorem dX4_opensIn_24 : decode cX4_opensIn 24 = .ok (.iload_n 2, 1) := by decide +kernel
theorem dX4_opensIn_25 : decode cX4_opensIn 25 = .ok (.sipush 500, 3) := by decide +kernel
theorem dX4_opensIn_28 : decode cX4_opensIn 28 = .ok (.if_icmp .gt 20, 3) := by decide +kernel
theorem dX4_opensIn_31 : decode cX4_opensIn 31 = .ok (.aload_n 0, 1) := by decide +kernel
theorem dX4_opensIn_32 : decode cX4_opensIn 32 = .ok (.iload_n 1, 1) := by decide +kernel
theorem dX4_opensIn_33 : decode cX4_opensIn 33 = .ok (.iload_n 2, 1) := by decide +kernel
theorem dX4_opensIn_34 : decode cX4_opensIn 34 = .ok (.invokevirtual 66, 3) := by decide +kernel
theorem dX4_opensIn_37 : decode cX4_opensIn 37 = .ok (.ifCond .eq 5, 3) := by decide +kernel
theorem dX4_opensIn_40 : decode cX4_opensIn 40 = .ok (.iload_n 2, 1) := by decide +kernel
theorem dX4_opensIn_41 : decode cX4_opensIn 41 = .ok (.ireturn, 1) := by decide +kernel
theorem dX4_opensIn_42 : decode cX4_opensIn 42 = .ok (.iinc 2 1, 3) := by decide +kernel
theorem dX4_opensIn_45 : decode cX4_opensIn 45 = .ok (.goto (-21), 3) := by decide +kernel
theorem dX4_opensIn_48 : decode cX4_opensIn 48 = .ok (.bipush (-6), 2) := by decide +kernel
theorem dX4_opensIn_50 : decode cX4_opensIn 50 = .ok (.ireturn, 1) := by decide +kernel
theorem dX4_dueIn_0 : decode cX4_dueIn 0 = .ok (.aload_n 0, 1) := by decide +kernel
theorem dX4_dueIn_1 : decode cX4_dueIn 1 = .ok (.iload_n 1, 1) := by decide +kernel
theorem dX4_dueIn_2 : decode cX4_dueIn 2 = .ok (.invokevirtual 83, 3) := by decide +kernel
theorem dX4_dueIn_5 : decode cX4_dueIn 5 = .ok (.ifCond .ne 5, 3) := by decide +kernel
theorem dX4_dueIn_8 : decode cX4_dueIn 8 = .ok (.iconst (-1), 1) := by decide +kernel
theorem dX4_dueIn_9 : decode cX4_dueIn 9 = .ok (.ireturn, 1) := by decide +kernel
theorem dX4_dueIn_10 : decode cX4_dueIn 10 = .ok (.aload_n 0, 1) := by decide +kernel
theorem dX4_dueIn_11 : decode cX4_dueIn 11 = .ok (.iload_n 1, 1) := by decide +kernel
theorem dX4_dueIn_12 : decode cX4_dueIn 12 = .ok (.iconst 4, 1) := by decide +kernel
theorem dX4_dueIn_13 : decode cX4_dueIn 13 = .ok (.invokevirtual 41, 3) := by decide +kernel
theorem dX4_dueIn_16 : decode cX4_dueIn 16 = .ok (.ifCond .eq 6, 3) := by decide +kernel
theorem dX4_dueIn_19 : decode cX4_dueIn 19 = .ok (.bipush (-5), 2) := by decide +kernel
theorem dX4_dueIn_21 : decode cX4_dueIn 21 = .ok (.ireturn, 1) := by decide +kernel
theorem dX4_dueIn_22 : decode cX4_dueIn 22 = .ok (.iconst 0, 1) := by decide +kernel
theorem dX4_dueIn_23 : decode cX4_dueIn 23 = .ok (.istore_n 2, 1) := by decide +kernel
theorem dX4_dueIn_24 : decode cX4_dueIn 24 = .ok (.iload_n 2, 1) := by decide +kernel
theorem dX4_dueIn_25 : decode cX4_dueIn 25 = .ok (.sipush 500, 3) := by decide +kernel
theorem dX4_dueIn_28 : decode cX4_dueIn 28 = .ok (.if_icmp .gt 20, 3) := by decide +kernel
theorem dX4_dueIn_31 : decode cX4_dueIn 31 = .ok (.aload_n 0, 1) := by decide +kernel
theorem dX4_dueIn_32 : decode cX4_dueIn 32 = .ok (.iload_n 1, 1) := by decide +kernel
theorem dX4_dueIn_33 : decode cX4_dueIn 33 = .ok (.iload_n 2, 1) := by decide +kernel
theorem dX4_dueIn_34 : decode cX4_dueIn 34 = .ok (.invokevirtual 72, 3) := by decide +kernel
theorem dX4_dueIn_37 : decode cX4_dueIn 37 = .ok (.ifCond .ne 5, 3) := by decide +kernel
theorem dX4_dueIn_40 : decode cX4_dueIn 40 = .ok (.iload_n 2, 1) := by decide +kernel
theorem dX4_dueIn_41 : decode cX4_dueIn 41 = .ok (.ireturn, 1) := by decide +kernel
theorem dX4_dueIn_42 : decode cX4_dueIn 42 = .ok (.iinc 2 1, 3) := by decide +kernel
theorem dX4_dueIn_45 : decode cX4_dueIn 45 = .ok (.goto (-21), 3) := by decide +kernel
theorem dX4_dueIn_48 : decode cX4_dueIn 48 = .ok (.bipush (-6), 2) := by decide +kernel
theorem dX4_dueIn_50 : decode cX4_dueIn 50 = .ok (.ireturn, 1) := by decide +kernel
theorem dX4_ifInsulted_0 : decode cX4_ifInsulted 0 = .ok (.aload_n 0, 1) := by decide +kernel
theorem dX4_ifInsulted_1 : decode cX4_ifInsulted 1 = .ok (.iload_n 1, 1) := by decide +kernel
theorem dX4_ifInsulted_2 : decode cX4_ifInsulted 2 = .ok (.invokevirtual 75, 3) := by decide +kernel
theorem dX4_ifInsulted_5 : decode cX4_ifInsulted 5 = .ok (.ifCond .eq 11, 3) := by decide +kernel
theorem dX4_ifInsulted_8 : decode cX4_ifInsulted 8 = .ok (.aload_n 0, 1) := by decide +kernel
theorem dX4_ifInsulted_9 : decode cX4_ifInsulted 9 = .ok (.iload_n 2, 1) := by decide +kernel
theorem dX4_ifInsulted_10 : decode cX4_ifInsulted 10 = .ok (.invokevirtual 75, 3) := by decide +kernel
theorem dX4_ifInsulted_13 : decode cX4_ifInsulted 13 = .ok (.ifCond .ne 5, 3) := by decide +kernel
theorem dX4_ifInsulted_16 : decode cX4_ifInsulted 16 = .ok (.iconst (-1), 1) := by decide +kernel
theorem dX4_ifInsulted_17 : decode cX4_ifInsulted 17 = .ok (.ireturn, 1) := by decide +kernel
theorem dX4_ifInsulted_18 : decode cX4_ifInsulted 18 = .ok (.iload_n 1, 1) := by decide +kernel
theorem dX4_ifInsulted_19 : decode cX4_ifInsulted 19 = .ok (.iload_n 2, 1) := by decide +kernel
theorem dX4_ifInsulted_20 : decode cX4_ifInsulted 20 = .ok (.if_icmp .eq 13, 3) := by decide +kernel
theorem dX4_ifInsulted_23 : decode cX4_ifInsulted 23 = .ok (.iload_n 3, 1) := by decide +kernel
theorem dX4_ifInsulted_24 : decode cX4_ifInsulted 24 = .ok (.iconst 1, 1) := by decide +kernel
theorem dX4_ifInsulted_25 : decode cX4_ifInsulted 25 = .ok (.bipush 9, 2) := by decide +kernel
theorem dX4_ifInsulted_27 : decode cX4_ifInsulted 27 = .ok (.invokestatic 33, 3) := by decide +kernel
theorem dX4_ifInsulted_30 : decode cX4_ifInsulted 30 = .ok (.ifCond .ne 6, 3) := by decide +kernel
theorem dX4_ifInsulted_33 : decode cX4_ifInsulted 33 = .ok (.bipush (-2), 2) := by decide +kernel
theorem dX4_ifInsulted_35 : decode cX4_ifInsulted 35 = .ok (.ireturn, 1) := by decide +kernel
theorem dX4_ifInsulted_36 : decode cX4_ifInsulted 36 = .ok (.aload_n 0, 1) := by decide +kernel
theorem dX4_ifInsulted_37 : decode cX4_ifInsulted 37 = .ok (.iload_n 1, 1) := by decide +kernel
theorem dX4_ifInsulted_38 : decode cX4_ifInsulted 38 = .ok (.iload_n 2, 1) := by decide +kernel
theorem dX4_ifInsulted_39 : decode cX4_ifInsulted 39 = .ok (.iload_n 3, 1) := by decide +kernel
theorem dX4_ifInsulted_40 : decode cX4_ifInsulted 40 = .ok (.iconst 0, 1) := by decide +kernel
theorem dX4_ifInsulted_41 : decode cX4_ifInsulted 41 = .ok (.bipush (-6), 2) := by decide +kernel
theorem dX4_ifInsulted_43 : decode cX4_ifInsulted 43 = .ok (.iconst 0, 1) := by decide +kernel
theorem dX4_ifInsulted_44 : decode cX4_ifInsulted 44 = .ok (.invokevirtual 62, 3) := by decide +kernel
theorem dX4_ifInsulted_47 : decode cX4_ifInsulted 47 = .ok (.ireturn, 1) := by decide +kernel
theorem dX4_ifFought_0 : decode cX4_ifFought 0 = .ok (.aload_n 0, 1) := by decide +kernel
theorem dX4_ifFought_1 : decode cX4_ifFought 1 = .ok (.iload_n 1, 1) := by decide +kernel
theorem dX4_ifFought_2 : decode cX4_ifFought 2 = .ok (.invokevirtual 83, 3) := by decide +kernel
theorem dX4_ifFought_5 : decode cX4_ifFought 5 = .ok (.ifCond .eq 11, 3) := by decide +kernel
theorem dX4_ifFought_8 : decode cX4_ifFought 8 = .ok (.aload_n 0, 1) := by decide +kernel
theorem dX4_ifFought_9 : decode cX4_ifFought 9 = .ok (.iload_n 1, 1) := by decide +kernel
theorem dX4_ifFought_10 : decode cX4_ifFought 10 = .ok (.invokevirtual 96, 3) := by decide +kernel
theorem dX4_ifFought_13 : decode cX4_ifFought 13 = .ok (.goto 4, 3) := by decide +kernel
theorem dX4_ifFought_16 : decode cX4_ifFought 16 = .ok (.iconst (-1), 1) := by decide +kernel
theorem dX4_ifFought_17 : decode cX4_ifFought 17 = .ok (.ireturn, 1) := by decide +kernel
theorem dX4_code_0 : decode cX4_code 0 = .ok (.lload_n 0, 1) := by decide +kernel
theorem dX4_code_1 : decode cX4_code 1 = .ok (.bipush 8, 2) := by decide +kernel
theorem dX4_code_3 : decode cX4_code 3 = .ok (.iload_n 2, 1) := by decide +kernel
theorem dX4_code_4 : decode cX4_code 4 = .ok (.imul, 1) := by decide +kernel
theorem dX4_code_5 : decode cX4_code 5 = .ok (.lushr, 1) := by decide +kernel
theorem dX4_code_6 : decode cX4_code 6 = .ok (.ldc2_w 156, 3) := by decide +kernel
theorem dX4_code_9 : decode cX4_code 9 = .ok (.land, 1) := by decide +kernel
theorem dX4_code_10 : decode cX4_code 10 = .ok (.l2i, 1) := by decide +kernel
theorem dX4_code_11 : decode cX4_code 11 = .ok (.ireturn, 1) := by decide +kernel
theorem dX4_put_0 : decode cX4_put 0 = .ok (.iconst 0, 1) := by decide +kernel
theorem dX4_put_1 : decode cX4_put 1 = .ok (.istore_n 3, 1) := by decide +kernel
theorem dX4_put_2 : decode cX4_put 2 = .ok (.iload_n 3, 1) := by decide +kernel
theorem dX4_put_3 : decode cX4_put 3 = .ok (.bipush 8, 2) := by decide +kernel
theorem dX4_put_5 : decode cX4_put 5 = .ok (.if_icmp .ge 35, 3) := by decide +kernel
theorem dX4_put_8 : decode cX4_put 8 = .ok (.lload_n 1, 1) := by decide +kernel
theorem dX4_put_9 : decode cX4_put 9 = .ok (.iload_n 3, 1) := by decide +kernel
theorem dX4_put_10 : decode cX4_put 10 = .ok (.invokestatic 158, 3) := by decide +kernel
theorem dX4_put_13 : decode cX4_put 13 = .ok (.ifCond .eq 27, 3) := by decide +kernel
theorem dX4_put_16 : decode cX4_put 16 = .ok (.lload_n 1, 1) := by decide +kernel
theorem dX4_put_17 : decode cX4_put 17 = .ok (.iload_n 3, 1) := by decide +kernel
theorem dX4_put_18 : decode cX4_put 18 = .ok (.invokestatic 158, 3) := by decide +kernel
theorem dX4_put_21 : decode cX4_put 21 = .ok (.bipush 33, 2) := by decide +kernel
theorem dX4_put_23 : decode cX4_put 23 = .ok (.bipush 126, 2) := by decide +kernel
theorem dX4_put_25 : decode cX4_put 25 = .ok (.invokestatic 33, 3) := by decide +kernel
theorem dX4_put_28 : decode cX4_put 28 = .ok (.ifCond .ne 6, 3) := by decide +kernel
theorem dX4_put_31 : decode cX4_put 31 = .ok (.bipush (-2), 2) := by decide +kernel
theorem dX4_put_33 : decode cX4_put 33 = .ok (.ireturn, 1) := by decide +kernel
theorem dX4_put_34 : decode cX4_put 34 = .ok (.iinc 3 1, 3) := by decide +kernel
theorem dX4_put_37 : decode cX4_put 37 = .ok (.goto (-35), 3) := by decide +kernel
theorem dX4_put_40 : decode cX4_put 40 = .ok (.iload_n 3, 1) := by decide +kernel
theorem dX4_put_41 : decode cX4_put 41 = .ok (.ifCond .eq 20, 3) := by decide +kernel
theorem dX4_put_44 : decode cX4_put 44 = .ok (.iload_n 3, 1) := by decide +kernel
theorem dX4_put_45 : decode cX4_put 45 = .ok (.bipush 8, 2) := by decide +kernel
theorem dX4_put_47 : decode cX4_put 47 = .ok (.if_icmp .ge 17, 3) := by decide +kernel
theorem dX4_put_50 : decode cX4_put 50 = .ok (.lload_n 1, 1) := by decide +kernel
theorem dX4_put_51 : decode cX4_put 51 = .ok (.bipush 8, 2) := by decide +kernel
theorem dX4_put_53 : decode cX4_put 53 = .ok (.iload_n 3, 1) := by decide +kernel
theorem dX4_put_54 : decode cX4_put 54 = .ok (.imul, 1) := by decide +kernel
theorem dX4_put_55 : decode cX4_put 55 = .ok (.lushr, 1) := by decide +kernel
theorem dX4_put_56 : decode cX4_put 56 = .ok (.lconst 0, 1) := by decide +kernel
theorem dX4_put_57 : decode cX4_put 57 = .ok (.lcmp, 1) := by decide +kernel
theorem dX4_put_58 : decode cX4_put 58 = .ok (.ifCond .eq 6, 3) := by decide +kernel
theorem dX4_put_61 : decode cX4_put 61 = .ok (.bipush (-2), 2) := by decide +kernel
theorem dX4_put_63 : decode cX4_put 63 = .ok (.ireturn, 1) := by decide +kernel
theorem dX4_put_64 : decode cX4_put 64 = .ok (.aload_n 0, 1) := by decide +kernel
theorem dX4_put_65 : decode cX4_put 65 = .ok (.getfield 153, 3) := by decide +kernel
theorem dX4_put_68 : decode cX4_put 68 = .ok (.iload_n 3, 1) := by decide +kernel
theorem dX4_put_69 : decode cX4_put 69 = .ok (.iadd, 1) := by decide +kernel
theorem dX4_put_70 : decode cX4_put 70 = .ok (.bipush 80, 2) := by decide +kernel
theorem dX4_put_72 : decode cX4_put 72 = .ok (.if_icmp .le 6, 3) := by decide +kernel
theorem dX4_put_75 : decode cX4_put 75 = .ok (.bipush (-4), 2) := by decide +kernel
theorem dX4_put_77 : decode cX4_put 77 = .ok (.ireturn, 1) := by decide +kernel
theorem dX4_put_78 : decode cX4_put 78 = .ok (.iload_n 3, 1) := by decide +kernel
theorem dX4_put_79 : decode cX4_put 79 = .ok (.iconst 1, 1) := by decide +kernel
theorem dX4_put_80 : decode cX4_put 80 = .ok (.isub, 1) := by decide +kernel
theorem dX4_put_81 : decode cX4_put 81 = .ok (.istore 4, 2) := by decide +kernel
theorem dX4_put_83 : decode cX4_put 83 = .ok (.iload 4, 2) := by decide +kernel
theorem dX4_put_85 : decode cX4_put 85 = .ok (.ifCond .lt 34, 3) := by decide +kernel
theorem dX4_put_88 : decode cX4_put 88 = .ok (.aload_n 0, 1) := by decide +kernel
theorem dX4_put_89 : decode cX4_put 89 = .ok (.getfield 26, 3) := by decide +kernel
theorem dX4_put_92 : decode cX4_put 92 = .ok (.aload_n 0, 1) := by decide +kernel
theorem dX4_put_93 : decode cX4_put 93 = .ok (.getfield 153, 3) := by decide +kernel
theorem dX4_put_96 : decode cX4_put 96 = .ok (.lload_n 1, 1) := by decide +kernel
theorem dX4_put_97 : decode cX4_put 97 = .ok (.iload 4, 2) := by decide +kernel
theorem dX4_put_99 : decode cX4_put 99 = .ok (.invokestatic 158, 3) := by decide +kernel
theorem dX4_put_102 : decode cX4_put 102 = .ok (.iastore, 1) := by decide +kernel
theorem dX4_put_103 : decode cX4_put 103 = .ok (.aload_n 0, 1) := by decide +kernel
theorem dX4_put_104 : decode cX4_put 104 = .ok (.dup, 1) := by decide +kernel
theorem dX4_put_105 : decode cX4_put 105 = .ok (.getfield 153, 3) := by decide +kernel
theorem dX4_put_108 : decode cX4_put 108 = .ok (.iconst 1, 1) := by decide +kernel
theorem dX4_put_109 : decode cX4_put 109 = .ok (.iadd, 1) := by decide +kernel
theorem dX4_put_110 : decode cX4_put 110 = .ok (.putfield 153, 3) := by decide +kernel
theorem dX4_put_113 : decode cX4_put 113 = .ok (.iinc 4 (-1), 3) := by decide +kernel
theorem dX4_put_116 : decode cX4_put 116 = .ok (.goto (-33), 3) := by decide +kernel
theorem dX4_put_119 : decode cX4_put 119 = .ok (.aload_n 0, 1) := by decide +kernel
theorem dX4_put_120 : decode cX4_put 120 = .ok (.getfield 153, 3) := by decide +kernel
theorem dX4_put_123 : decode cX4_put 123 = .ok (.ireturn, 1) := by decide +kernel
theorem dX4_wipe_0 : decode cX4_wipe 0 = .ok (.aload_n 0, 1) := by decide +kernel
theorem dX4_wipe_1 : decode cX4_wipe 1 = .ok (.getfield 153, 3) := by decide +kernel
theorem dX4_wipe_4 : decode cX4_wipe 4 = .ok (.istore_n 1, 1) := by decide +kernel
theorem dX4_wipe_5 : decode cX4_wipe 5 = .ok (.aload_n 0, 1) := by decide +kernel
theorem dX4_wipe_6 : decode cX4_wipe 6 = .ok (.iconst 0, 1) := by decide +kernel
theorem dX4_wipe_7 : decode cX4_wipe 7 = .ok (.putfield 153, 3) := by decide +kernel
theorem dX4_wipe_10 : decode cX4_wipe 10 = .ok (.iload_n 1, 1) := by decide +kernel
theorem dX4_wipe_11 : decode cX4_wipe 11 = .ok (.ireturn, 1) := by decide +kernel
theorem dX4_sign_0 : decode cX4_sign 0 = .ok (.aload_n 0, 1) := by decide +kernel
theorem dX4_sign_1 : decode cX4_sign 1 = .ok (.getfield 162, 3) := by decide +kernel
theorem dX4_sign_4 : decode cX4_sign 4 = .ok (.aload_n 0, 1) := by decide +kernel
theorem dX4_sign_5 : decode cX4_sign 5 = .ok (.getfield 153, 3) := by decide +kernel
theorem dX4_sign_8 : decode cX4_sign 8 = .ok (.if_icmp .ge 15, 3) := by decide +kernel
theorem dX4_sign_11 : decode cX4_sign 11 = .ok (.aload_n 0, 1) := by decide +kernel
theorem dX4_sign_12 : decode cX4_sign 12 = .ok (.getfield 26, 3) := by decide +kernel
theorem dX4_sign_15 : decode cX4_sign 15 = .ok (.aload_n 0, 1) := by decide +kernel
theorem dX4_sign_16 : decode cX4_sign 16 = .ok (.getfield 162, 3) := by decide +kernel
theorem dX4_sign_19 : decode cX4_sign 19 = .ok (.iaload, 1) := by decide +kernel
theorem dX4_sign_20 : decode cX4_sign 20 = .ok (.goto 4, 3) := by decide +kernel
theorem dX4_sign_23 : decode cX4_sign 23 = .ok (.iconst 0, 1) := by decide +kernel
theorem dX4_sign_24 : decode cX4_sign 24 = .ok (.istore_n 3, 1) := by decide +kernel
theorem dX4_sign_25 : decode cX4_sign 25 = .ok (.aload_n 0, 1) := by decide +kernel
theorem dX4_sign_26 : decode cX4_sign 26 = .ok (.aload_n 0, 1) := by decide +kernel
theorem dX4_sign_27 : decode cX4_sign 27 = .ok (.getfield 165, 3) := by decide +kernel
theorem dX4_sign_30 : decode cX4_sign 30 = .ok (.ifCond .ne 23, 3) := by decide +kernel
theorem dX4_sign_33 : decode cX4_sign 33 = .ok (.aload_n 0, 1) := by decide +kernel
theorem dX4_sign_34 : decode cX4_sign 34 = .ok (.getfield 162, 3) := by decide +kernel
theorem dX4_sign_37 : decode cX4_sign 37 = .ok (.aload_n 0, 1) := by decide +kernel
theorem dX4_sign_38 : decode cX4_sign 38 = .ok (.getfield 153, 3) := by decide +kernel
theorem dX4_sign_41 : decode cX4_sign 41 = .ok (.if_icmp .ge 12, 3) := by decide +kernel
theorem dX4_sign_44 : decode cX4_sign 44 = .ok (.iload_n 3, 1) := by decide +kernel
theorem dX4_sign_45 : decode cX4_sign 45 = .ok (.iload_n 1, 1) := by decide +kernel
theorem dX4_sign_46 : decode cX4_sign 46 = .ok (.iload_n 2, 1) := by decide +kernel
theorem dX4_sign_47 : decode cX4_sign 47 = .ok (.invokestatic 33, 3) := by decide +kernel
theorem dX4_sign_50 : decode cX4_sign 50 = .ok (.ifCond .ne 7, 3) := by decide +kernel
theorem dX4_sign_53 : decode cX4_sign 53 = .ok (.iconst 1, 1) := by decide +kernel
theorem dX4_sign_54 : decode cX4_sign 54 = .ok (.goto 4, 3) := by decide +kernel
theorem dX4_sign_57 : decode cX4_sign 57 = .ok (.iconst 0, 1) := by decide +kernel
theorem dX4_sign_58 : decode cX4_sign 58 = .ok (.putfield 165, 3) := by decide +kernel
theorem dX4_sign_61 : decode cX4_sign 61 = .ok (.aload_n 0, 1) := by decide +kernel
theorem dX4_sign_62 : decode cX4_sign 62 = .ok (.dup, 1) := by decide +kernel
theorem dX4_sign_63 : decode cX4_sign 63 = .ok (.getfield 162, 3) := by decide +kernel
theorem dX4_sign_66 : decode cX4_sign 66 = .ok (.aload_n 0, 1) := by decide +kernel
theorem dX4_sign_67 : decode cX4_sign 67 = .ok (.getfield 165, 3) := by decide +kernel
theorem dX4_sign_70 : decode cX4_sign 70 = .ok (.ifCond .eq 7, 3) := by decide +kernel
theorem dX4_sign_73 : decode cX4_sign 73 = .ok (.iconst 0, 1) := by decide +kernel
theorem dX4_sign_74 : decode cX4_sign 74 = .ok (.goto 4, 3) := by decide +kernel
theorem dX4_sign_77 : decode cX4_sign 77 = .ok (.iconst 1, 1) := by decide +kernel
theorem dX4_sign_78 : decode cX4_sign 78 = .ok (.iadd, 1) := by decide +kernel
theorem dX4_sign_79 : decode cX4_sign 79 = .ok (.putfield 162, 3) := by decide +kernel
theorem dX4_sign_82 : decode cX4_sign 82 = .ok (.iload_n 3, 1) := by decide +kernel
theorem dX4_sign_83 : decode cX4_sign 83 = .ok (.ireturn, 1) := by decide +kernel
theorem dX4_digit_0 : decode cX4_digit 0 = .ok (.aload_n 0, 1) := by decide +kernel
theorem dX4_digit_1 : decode cX4_digit 1 = .ok (.bipush 48, 2) := by decide +kernel
theorem dX4_digit_3 : decode cX4_digit 3 = .ok (.bipush 57, 2) := by decide +kernel
theorem dX4_digit_5 : decode cX4_digit 5 = .ok (.invokevirtual 169, 3) := by decide +kernel
theorem dX4_digit_8 : decode cX4_digit 8 = .ok (.bipush 48, 2) := by decide +kernel
theorem dX4_digit_10 : decode cX4_digit 10 = .ok (.isub, 1) := by decide +kernel
theorem dX4_digit_11 : decode cX4_digit 11 = .ok (.ireturn, 1) := by decide +kernel
theorem dX4_number_0 : decode cX4_number 0 = .ok (.aload_n 0, 1) := by decide +kernel
theorem dX4_number_1 : decode cX4_number 1 = .ok (.invokevirtual 172, 3) := by decide +kernel
theorem dX4_number_4 : decode cX4_number 4 = .ok (.istore_n 1, 1) := by decide +kernel
theorem dX4_number_5 : decode cX4_number 5 = .ok (.iload_n 1, 1) := by decide +kernel
theorem dX4_number_6 : decode cX4_number 6 = .ok (.ifCond .le 50, 3) := by decide +kernel
theorem dX4_number_9 : decode cX4_number 9 = .ok (.aload_n 0, 1) := by decide +kernel
theorem dX4_number_10 : decode cX4_number 10 = .ok (.getfield 165, 3) := by decide +kernel
theorem dX4_number_13 : decode cX4_number 13 = .ok (.ifCond .ne 43, 3) := by decide +kernel
theorem dX4_number_16 : decode cX4_number 16 = .ok (.aload_n 0, 1) := by decide +kernel
theorem dX4_number_17 : decode cX4_number 17 = .ok (.getfield 162, 3) := by decide +kernel
theorem dX4_number_20 : decode cX4_number 20 = .ok (.aload_n 0, 1) := by decide +kernel
theorem dX4_number_21 : decode cX4_number 21 = .ok (.getfield 153, 3) := by decide +kernel
theorem dX4_number_24 : decode cX4_number 24 = .ok (.if_icmp .ge 32, 3) := by decide +kernel
theorem dX4_number_27 : decode cX4_number 27 = .ok (.aload_n 0, 1) := by decide +kernel
theorem dX4_number_28 : decode cX4_number 28 = .ok (.getfield 26, 3) := by decide +kernel
theorem dX4_number_31 : decode cX4_number 31 = .ok (.aload_n 0, 1) := by decide +kernel
theorem dX4_number_32 : decode cX4_number 32 = .ok (.getfield 162, 3) := by decide +kernel
theorem dX4_number_35 : decode cX4_number 35 = .ok (.iaload, 1) := by decide +kernel
theorem dX4_number_36 : decode cX4_number 36 = .ok (.bipush 48, 2) := by decide +kernel
theorem dX4_number_38 : decode cX4_number 38 = .ok (.bipush 57, 2) := by decide +kernel
theorem dX4_number_40 : decode cX4_number 40 = .ok (.invokestatic 33, 3) := by decide +kernel
theorem dX4_number_43 : decode cX4_number 43 = .ok (.ifCond .eq 13, 3) := by decide +kernel
theorem dX4_number_46 : decode cX4_number 46 = .ok (.bipush 10, 2) := by decide +kernel
theorem dX4_number_48 : decode cX4_number 48 = .ok (.iload_n 1, 1) := by decide +kernel
theorem dX4_number_49 : decode cX4_number 49 = .ok (.imul, 1) := by decide +kernel
theorem dX4_number_50 : decode cX4_number 50 = .ok (.aload_n 0, 1) := by decide +kernel
theorem dX4_number_51 : decode cX4_number 51 = .ok (.invokevirtual 172, 3) := by decide +kernel
theorem dX4_number_54 : decode cX4_number 54 = .ok (.iadd, 1) := by decide +kernel
theorem dX4_number_55 : decode cX4_number 55 = .ok (.istore_n 1, 1) := by decide +kernel
theorem dX4_number_56 : decode cX4_number 56 = .ok (.iload_n 1, 1) := by decide +kernel
theorem dX4_number_57 : decode cX4_number 57 = .ok (.ireturn, 1) := by decide +kernel
theorem dX4_order_0 : decode cX4_order 0 = .ok (.aload_n 0, 1) := by decide +kernel
theorem dX4_order_1 : decode cX4_order 1 = .ok (.getfield 162, 3) := by decide +kernel
theorem dX4_order_4 : decode cX4_order 4 = .ok (.aload_n 0, 1) := by decide +kernel
theorem dX4_order_5 : decode cX4_order 5 = .ok (.getfield 153, 3) := by decide +kernel
theorem dX4_order_8 : decode cX4_order 8 = .ok (.if_icmp .ge 15, 3) := by decide +kernel
theorem dX4_order_11 : decode cX4_order 11 = .ok (.aload_n 0, 1) := by decide +kernel
theorem dX4_order_12 : decode cX4_order 12 = .ok (.getfield 26, 3) := by decide +kernel
theorem dX4_order_15 : decode cX4_order 15 = .ok (.aload_n 0, 1) := by decide +kernel
theorem dX4_order_16 : decode cX4_order 16 = .ok (.getfield 162, 3) := by decide +kernel
theorem dX4_order_19 : decode cX4_order 19 = .ok (.iaload, 1) := by decide +kernel
theorem dX4_order_20 : decode cX4_order 20 = .ok (.goto 4, 3) := by decide +kernel
theorem dX4_order_23 : decode cX4_order 23 = .ok (.iconst 0, 1) := by decide +kernel
theorem dX4_order_24 : decode cX4_order 24 = .ok (.istore_n 2, 1) := by decide +kernel
theorem dX4_order_25 : decode cX4_order 25 = .ok (.iload_n 2, 1) := by decide +kernel
theorem dX4_order_26 : decode cX4_order 26 = .ok (.bipush 112, 2) := by decide +kernel
theorem dX4_order_28 : decode cX4_order 28 = .ok (.if_icmp .eq 45, 3) := by decide +kernel
theorem dX4_order_31 : decode cX4_order 31 = .ok (.iload_n 2, 1) := by decide +kernel
theorem dX4_order_32 : decode cX4_order 32 = .ok (.bipush 115, 2) := by decide +kernel
theorem dX4_order_34 : decode cX4_order 34 = .ok (.if_icmp .eq 39, 3) := by decide +kernel
theorem dX4_order_37 : decode cX4_order 37 = .ok (.iload_n 2, 1) := by decide +kernel
theorem dX4_order_38 : decode cX4_order 38 = .ok (.bipush 105, 2) := by decide +kernel
theorem dX4_order_40 : decode cX4_order 40 = .ok (.if_icmp .eq 33, 3) := by decide +kernel
theorem dX4_order_43 : decode cX4_order 43 = .ok (.iload_n 2, 1) := by decide +kernel
theorem dX4_order_44 : decode cX4_order 44 = .ok (.bipush 119, 2) := by decide +kernel
theorem dX4_order_46 : decode cX4_order 46 = .ok (.if_icmp .eq 27, 3) := by decide +kernel
theorem dX4_order_49 : decode cX4_order 49 = .ok (.iload_n 2, 1) := by decide +kernel
theorem dX4_order_50 : decode cX4_order 50 = .ok (.bipush 102, 2) := by decide +kernel
theorem dX4_order_52 : decode cX4_order 52 = .ok (.if_icmp .eq 21, 3) := by decide +kernel
theorem dX4_order_55 : decode cX4_order 55 = .ok (.iload_n 2, 1) := by decide +kernel
theorem dX4_order_56 : decode cX4_order 56 = .ok (.bipush 111, 2) := by decide +kernel
theorem dX4_order_58 : decode cX4_order 58 = .ok (.if_icmp .eq 15, 3) := by decide +kernel
theorem dX4_order_61 : decode cX4_order 61 = .ok (.iload_n 2, 1) := by decide +kernel
theorem dX4_order_62 : decode cX4_order 62 = .ok (.bipush 116, 2) := by decide +kernel
theorem dX4_order_64 : decode cX4_order 64 = .ok (.if_icmp .eq 9, 3) := by decide +kernel
theorem dX4_order_67 : decode cX4_order 67 = .ok (.iload_n 2, 1) := by decide +kernel
theorem dX4_order_68 : decode cX4_order 68 = .ok (.bipush 97, 2) := by decide +kernel
theorem dX4_order_70 : decode cX4_order 70 = .ok (.if_icmp .ne 7, 3) := by decide +kernel
theorem dX4_order_73 : decode cX4_order 73 = .ok (.iconst 1, 1) := by decide +kernel
theorem dX4_order_74 : decode cX4_order 74 = .ok (.goto 4, 3) := by decide +kernel
theorem dX4_order_77 : decode cX4_order 77 = .ok (.iconst 0, 1) := by decide +kernel
theorem dX4_order_78 : decode cX4_order 78 = .ok (.istore_n 3, 1) := by decide +kernel
theorem dX4_order_79 : decode cX4_order 79 = .ok (.aload_n 0, 1) := by decide +kernel
theorem dX4_order_80 : decode cX4_order 80 = .ok (.aload_n 0, 1) := by decide +kernel
theorem dX4_order_81 : decode cX4_order 81 = .ok (.getfield 165, 3) := by decide +kernel
theorem dX4_order_84 : decode cX4_order 84 = .ok (.ifCond .ne 7, 3) := by decide +kernel
theorem dX4_order_87 : decode cX4_order 87 = .ok (.iload_n 3, 1) := by decide +kernel
theorem dX4_order_88 : decode cX4_order 88 = .ok (.ifCond .ne 7, 3) := by decide +kernel
theorem dX4_order_91 : decode cX4_order 91 = .ok (.iconst 1, 1) := by decide +kernel
theorem dX4_order_92 : decode cX4_order 92 = .ok (.goto 4, 3) := by decide +kernel
theorem dX4_order_95 : decode cX4_order 95 = .ok (.iconst 0, 1) := by decide +kernel
theorem dX4_order_96 : decode cX4_order 96 = .ok (.putfield 165, 3) := by decide +kernel
theorem dX4_order_99 : decode cX4_order 99 = .ok (.aload_n 0, 1) := by decide +kernel
theorem dX4_order_100 : decode cX4_order 100 = .ok (.dup, 1) := by decide +kernel
theorem dX4_order_101 : decode cX4_order 101 = .ok (.getfield 162, 3) := by decide +kernel
theorem dX4_order_104 : decode cX4_order 104 = .ok (.aload_n 0, 1) := by decide +kernel
theorem dX4_order_105 : decode cX4_order 105 = .ok (.getfield 165, 3) := by decide +kernel
theorem dX4_order_108 : decode cX4_order 108 = .ok (.ifCond .eq 7, 3) := by decide +kernel
theorem dX4_order_111 : decode cX4_order 111 = .ok (.iconst 0, 1) := by decide +kernel
theorem dX4_order_112 : decode cX4_order 112 = .ok (.goto 4, 3) := by decide +kernel
theorem dX4_order_115 : decode cX4_order 115 = .ok (.iconst 1, 1) := by decide +kernel
theorem dX4_order_116 : decode cX4_order 116 = .ok (.iadd, 1) := by decide +kernel
theorem dX4_order_117 : decode cX4_order 117 = .ok (.putfield 162, 3) := by decide +kernel
theorem dX4_order_120 : decode cX4_order 120 = .ok (.iload_n 2, 1) := by decide +kernel
theorem dX4_order_121 : decode cX4_order 121 = .ok (.bipush 119, 2) := by decide +kernel
theorem dX4_order_123 : decode cX4_order 123 = .ok (.if_icmp .eq 15, 3) := by decide +kernel
theorem dX4_order_126 : decode cX4_order 126 = .ok (.iload_n 2, 1) := by decide +kernel
theorem dX4_order_127 : decode cX4_order 127 = .ok (.bipush 102, 2) := by decide +kernel
theorem dX4_order_129 : decode cX4_order 129 = .ok (.if_icmp .eq 9, 3) := by decide +kernel
theorem dX4_order_132 : decode cX4_order 132 = .ok (.iload_n 2, 1) := by decide +kernel
theorem dX4_order_133 : decode cX4_order 133 = .ok (.bipush 116, 2) := by decide +kernel
theorem dX4_order_135 : decode cX4_order 135 = .ok (.if_icmp .ne 10, 3) := by decide +kernel
theorem dX4_order_138 : decode cX4_order 138 = .ok (.aload_n 0, 1) := by decide +kernel
theorem dX4_order_139 : decode cX4_order 139 = .ok (.invokevirtual 175, 3) := by decide +kernel
theorem dX4_order_142 : decode cX4_order 142 = .ok (.goto 7, 3) := by decide +kernel
theorem dX4_order_145 : decode cX4_order 145 = .ok (.aload_n 0, 1) := by decide +kernel
theorem dX4_order_146 : decode cX4_order 146 = .ok (.invokevirtual 172, 3) := by decide +kernel
theorem dX4_order_149 : decode cX4_order 149 = .ok (.istore 4, 2) := by decide +kernel
theorem dX4_order_151 : decode cX4_order 151 = .ok (.iconst 0, 1) := by decide +kernel
theorem dX4_order_152 : decode cX4_order 152 = .ok (.istore 5, 2) := by decide +kernel
theorem dX4_order_154 : decode cX4_order 154 = .ok (.iconst 0, 1) := by decide +kernel
theorem dX4_order_155 : decode cX4_order 155 = .ok (.istore 6, 2) := by decide +kernel
theorem dX4_order_157 : decode cX4_order 157 = .ok (.iload_n 2, 1) := by decide +kernel
theorem dX4_order_158 : decode cX4_order 158 = .ok (.bipush 115, 2) := by decide +kernel
theorem dX4_order_160 : decode cX4_order 160 = .ok (.if_icmp .ne 13, 3) := by decide +kernel
theorem dX4_order_163 : decode cX4_order 163 = .ok (.aload_n 0, 1) := by decide +kernel
theorem dX4_order_164 : decode cX4_order 164 = .ok (.bipush 62, 2) := by decide +kernel
theorem dX4_order_166 : decode cX4_order 166 = .ok (.bipush 62, 2) := by decide +kernel
theorem dX4_order_168 : decode cX4_order 168 = .ok (.invokevirtual 169, 3) := by decide +kernel
theorem dX4_order_171 : decode cX4_order 171 = .ok (.istore 7, 2) := by decide +kernel
theorem dX4_order_173 : decode cX4_order 173 = .ok (.iload_n 2, 1) := by decide +kernel
theorem dX4_order_174 : decode cX4_order 174 = .ok (.bipush 119, 2) := by decide +kernel
theorem dX4_order_176 : decode cX4_order 176 = .ok (.if_icmp .ne 13, 3) := by decide +kernel
theorem dX4_order_179 : decode cX4_order 179 = .ok (.aload_n 0, 1) := by decide +kernel
theorem dX4_order_180 : decode cX4_order 180 = .ok (.bipush 46, 2) := by decide +kernel
theorem dX4_order_182 : decode cX4_order 182 = .ok (.bipush 46, 2) := by decide +kernel
theorem dX4_order_184 : decode cX4_order 184 = .ok (.invokevirtual 169, 3) := by decide +kernel
theorem dX4_order_187 : decode cX4_order 187 = .ok (.istore 7, 2) := by decide +kernel
theorem dX4_order_189 : decode cX4_order 189 = .ok (.iload_n 2, 1) := by decide +kernel
theorem dX4_order_190 : decode cX4_order 190 = .ok (.bipush 112, 2) := by decide +kernel
theorem dX4_order_192 : decode cX4_order 192 = .ok (.if_icmp .eq 21, 3) := by decide +kernel
theorem dX4_order_195 : decode cX4_order 195 = .ok (.iload_n 2, 1) := by decide +kernel
theorem dX4_order_196 : decode cX4_order 196 = .ok (.bipush 115, 2) := by decide +kernel
theorem dX4_order_198 : decode cX4_order 198 = .ok (.if_icmp .eq 15, 3) := by decide +kernel
theorem dX4_order_201 : decode cX4_order 201 = .ok (.iload_n 2, 1) := by decide +kernel
theorem dX4_order_202 : decode cX4_order 202 = .ok (.bipush 105, 2) := by decide +kernel
theorem dX4_order_204 : decode cX4_order 204 = .ok (.if_icmp .eq 9, 3) := by decide +kernel
theorem dX4_order_207 : decode cX4_order 207 = .ok (.iload_n 2, 1) := by decide +kernel
theorem dX4_order_208 : decode cX4_order 208 = .ok (.bipush 119, 2) := by decide +kernel
theorem dX4_order_210 : decode cX4_order 210 = .ok (.if_icmp .ne 9, 3) := by decide +kernel
theorem dX4_order_213 : decode cX4_order 213 = .ok (.aload_n 0, 1) := by decide +kernel
theorem dX4_order_214 : decode cX4_order 214 = .ok (.invokevirtual 172, 3) := by decide +kernel
theorem dX4_order_217 : decode cX4_order 217 = .ok (.istore 5, 2) := by decide +kernel
theorem dX4_order_219 : decode cX4_order 219 = .ok (.iload_n 2, 1) := by decide +kernel
theorem dX4_order_220 : decode cX4_order 220 = .ok (.bipush 105, 2) := by decide +kernel
theorem dX4_order_222 : decode cX4_order 222 = .ok (.if_icmp .ne 19, 3) := by decide +kernel
theorem dX4_order_225 : decode cX4_order 225 = .ok (.aload_n 0, 1) := by decide +kernel
theorem dX4_order_226 : decode cX4_order 226 = .ok (.bipush 47, 2) := by decide +kernel
theorem dX4_order_228 : decode cX4_order 228 = .ok (.bipush 47, 2) := by decide +kernel
theorem dX4_order_230 : decode cX4_order 230 = .ok (.invokevirtual 169, 3) := by decide +kernel
theorem dX4_order_233 : decode cX4_order 233 = .ok (.istore 7, 2) := by decide +kernel
theorem dX4_order_235 : decode cX4_order 235 = .ok (.aload_n 0, 1) := by decide +kernel
theorem dX4_order_236 : decode cX4_order 236 = .ok (.invokevirtual 172, 3) := by decide +kernel
theorem dX4_order_239 : decode cX4_order 239 = .ok (.istore 6, 2) := by decide +kernel
theorem dX4_order_241 : decode cX4_order 241 = .ok (.iload_n 1, 1) := by decide +kernel
theorem dX4_order_242 : decode cX4_order 242 = .ok (.ifCond .ne 5, 3) := by decide +kernel
theorem dX4_order_245 : decode cX4_order 245 = .ok (.iconst 0, 1) := by decide +kernel
theorem dX4_order_246 : decode cX4_order 246 = .ok (.ireturn, 1) := by decide +kernel
theorem dX4_order_247 : decode cX4_order 247 = .ok (.iload_n 2, 1) := by decide +kernel
theorem dX4_order_248 : decode cX4_order 248 = .ok (.tableswitch 147 102 119 #[126, 147, 147, 106, 147, 147, 147, 147, 147, 133, 88, 147, 147, 97, 140, 147, 147, 117], 88) := by decide +kernel
theorem dX4_order_336 : decode cX4_order 336 = .ok (.aload_n 0, 1) := by decide +kernel
theorem dX4_order_337 : decode cX4_order 337 = .ok (.iload 4, 2) := by decide +kernel
theorem dX4_order_339 : decode cX4_order 339 = .ok (.iload 5, 2) := by decide +kernel
theorem dX4_order_341 : decode cX4_order 341 = .ok (.invokevirtual 113, 3) := by decide +kernel
theorem dX4_order_344 : decode cX4_order 344 = .ok (.ireturn, 1) := by decide +kernel
theorem dX4_order_345 : decode cX4_order 345 = .ok (.aload_n 0, 1) := by decide +kernel
theorem dX4_order_346 : decode cX4_order 346 = .ok (.iload 4, 2) := by decide +kernel
theorem dX4_order_348 : decode cX4_order 348 = .ok (.iload 5, 2) := by decide +kernel
theorem dX4_order_350 : decode cX4_order 350 = .ok (.invokevirtual 116, 3) := by decide +kernel
theorem dX4_order_353 : decode cX4_order 353 = .ok (.ireturn, 1) := by decide +kernel
theorem dX4_order_354 : decode cX4_order 354 = .ok (.aload_n 0, 1) := by decide +kernel
theorem dX4_order_355 : decode cX4_order 355 = .ok (.iload 4, 2) := by decide +kernel
theorem dX4_order_357 : decode cX4_order 357 = .ok (.iload 5, 2) := by decide +kernel
theorem dX4_order_359 : decode cX4_order 359 = .ok (.iload 6, 2) := by decide +kernel
theorem dX4_order_361 : decode cX4_order 361 = .ok (.invokevirtual 122, 3) := by decide +kernel
theorem dX4_order_364 : decode cX4_order 364 = .ok (.ireturn, 1) := by decide +kernel
theorem dX4_order_365 : decode cX4_order 365 = .ok (.aload_n 0, 1) := by decide +kernel
theorem dX4_order_366 : decode cX4_order 366 = .ok (.iload 4, 2) := by decide +kernel
theorem dX4_order_368 : decode cX4_order 368 = .ok (.iload 5, 2) := by decide +kernel
theorem dX4_order_370 : decode cX4_order 370 = .ok (.invokevirtual 126, 3) := by decide +kernel
theorem dX4_order_373 : decode cX4_order 373 = .ok (.ireturn, 1) := by decide +kernel
theorem dX4_order_374 : decode cX4_order 374 = .ok (.aload_n 0, 1) := by decide +kernel
theorem dX4_order_375 : decode cX4_order 375 = .ok (.iload 4, 2) := by decide +kernel
theorem dX4_order_377 : decode cX4_order 377 = .ok (.invokevirtual 129, 3) := by decide +kernel
theorem dX4_order_380 : decode cX4_order 380 = .ok (.ireturn, 1) := by decide +kernel
theorem dX4_order_381 : decode cX4_order 381 = .ok (.aload_n 0, 1) := by decide +kernel
theorem dX4_order_382 : decode cX4_order 382 = .ok (.iload 4, 2) := by decide +kernel
theorem dX4_order_384 : decode cX4_order 384 = .ok (.invokevirtual 132, 3) := by decide +kernel
theorem dX4_order_387 : decode cX4_order 387 = .ok (.ireturn, 1) := by decide +kernel
theorem dX4_order_388 : decode cX4_order 388 = .ok (.aload_n 0, 1) := by decide +kernel
theorem dX4_order_389 : decode cX4_order 389 = .ok (.iload 4, 2) := by decide +kernel
theorem dX4_order_391 : decode cX4_order 391 = .ok (.invokevirtual 135, 3) := by decide +kernel
theorem dX4_order_394 : decode cX4_order 394 = .ok (.ireturn, 1) := by decide +kernel
theorem dX4_order_395 : decode cX4_order 395 = .ok (.aload_n 0, 1) := by decide +kernel
theorem dX4_order_396 : decode cX4_order 396 = .ok (.iload 4, 2) := by decide +kernel
theorem dX4_order_398 : decode cX4_order 398 = .ok (.invokevirtual 119, 3) := by decide +kernel
theorem dX4_order_401 : decode cX4_order 401 = .ok (.ireturn, 1) := by decide +kernel
theorem dX4_go_0 : decode cX4_go 0 = .ok (.aload_n 0, 1) := by decide +kernel
theorem dX4_go_1 : decode cX4_go 1 = .ok (.iconst 0, 1) := by decide +kernel
theorem dX4_go_2 : decode cX4_go 2 = .ok (.putfield 162, 3) := by decide +kernel
theorem dX4_go_5 : decode cX4_go 5 = .ok (.aload_n 0, 1) := by decide +kernel
theorem dX4_go_6 : decode cX4_go 6 = .ok (.iconst 0, 1) := by decide +kernel
theorem dX4_go_7 : decode cX4_go 7 = .ok (.putfield 165, 3) := by decide +kernel
theorem dX4_go_10 : decode cX4_go 10 = .ok (.iconst 0, 1) := by decide +kernel
theorem dX4_go_11 : decode cX4_go 11 = .ok (.istore_n 2, 1) := by decide +kernel
theorem dX4_go_12 : decode cX4_go 12 = .ok (.iconst 1, 1) := by decide +kernel
theorem dX4_go_13 : decode cX4_go 13 = .ok (.istore_n 3, 1) := by decide +kernel
theorem dX4_go_14 : decode cX4_go 14 = .ok (.iload_n 3, 1) := by decide +kernel
theorem dX4_go_15 : decode cX4_go 15 = .ok (.ifCond .eq 81, 3) := by decide +kernel
theorem dX4_go_18 : decode cX4_go 18 = .ok (.aload_n 0, 1) := by decide +kernel
theorem dX4_go_19 : decode cX4_go 19 = .ok (.iload_n 1, 1) := by decide +kernel
theorem dX4_go_20 : decode cX4_go 20 = .ok (.invokevirtual 178, 3) := by decide +kernel
theorem dX4_go_23 : decode cX4_go 23 = .ok (.istore 4, 2) := by decide +kernel
theorem dX4_go_25 : decode cX4_go 25 = .ok (.iload 4, 2) := by decide +kernel
theorem dX4_go_27 : decode cX4_go 27 = .ok (.ifCond .ge 12, 3) := by decide +kernel
theorem dX4_go_30 : decode cX4_go 30 = .ok (.iload 4, 2) := by decide +kernel
theorem dX4_go_32 : decode cX4_go 32 = .ok (.bipush (-6), 2) := by decide +kernel
theorem dX4_go_34 : decode cX4_go 34 = .ok (.if_icmp .eq 5, 3) := by decide +kernel
theorem dX4_go_37 : decode cX4_go 37 = .ok (.iload_n 2, 1) := by decide +kernel
theorem dX4_go_38 : decode cX4_go 38 = .ok (.ireturn, 1) := by decide +kernel
theorem dX4_go_39 : decode cX4_go 39 = .ok (.iinc 2 1, 3) := by decide +kernel
theorem dX4_go_42 : decode cX4_go 42 = .ok (.aload_n 0, 1) := by decide +kernel
theorem dX4_go_43 : decode cX4_go 43 = .ok (.getfield 165, 3) := by decide +kernel
theorem dX4_go_46 : decode cX4_go 46 = .ok (.ifCond .ne 18, 3) := by decide +kernel
theorem dX4_go_49 : decode cX4_go 49 = .ok (.aload_n 0, 1) := by decide +kernel
theorem dX4_go_50 : decode cX4_go 50 = .ok (.getfield 162, 3) := by decide +kernel
theorem dX4_go_53 : decode cX4_go 53 = .ok (.aload_n 0, 1) := by decide +kernel
theorem dX4_go_54 : decode cX4_go 54 = .ok (.getfield 153, 3) := by decide +kernel
theorem dX4_go_57 : decode cX4_go 57 = .ok (.if_icmp .ge 7, 3) := by decide +kernel
theorem dX4_go_60 : decode cX4_go 60 = .ok (.iconst 1, 1) := by decide +kernel
theorem dX4_go_61 : decode cX4_go 61 = .ok (.goto 4, 3) := by decide +kernel
theorem dX4_go_64 : decode cX4_go 64 = .ok (.iconst 0, 1) := by decide +kernel
theorem dX4_go_65 : decode cX4_go 65 = .ok (.istore_n 3, 1) := by decide +kernel
theorem dX4_go_66 : decode cX4_go 66 = .ok (.iload_n 3, 1) := by decide +kernel
theorem dX4_go_67 : decode cX4_go 67 = .ok (.ifCond .eq 26, 3) := by decide +kernel
theorem dX4_go_70 : decode cX4_go 70 = .ok (.aload_n 0, 1) := by decide +kernel
theorem dX4_go_71 : decode cX4_go 71 = .ok (.bipush 59, 2) := by decide +kernel
theorem dX4_go_73 : decode cX4_go 73 = .ok (.bipush 59, 2) := by decide +kernel
theorem dX4_go_75 : decode cX4_go 75 = .ok (.invokevirtual 169, 3) := by decide +kernel
theorem dX4_go_78 : decode cX4_go 78 = .ok (.istore 5, 2) := by decide +kernel
theorem dX4_go_80 : decode cX4_go 80 = .ok (.aload_n 0, 1) := by decide +kernel
theorem dX4_go_81 : decode cX4_go 81 = .ok (.getfield 165, 3) := by decide +kernel
theorem dX4_go_84 : decode cX4_go 84 = .ok (.ifCond .ne 7, 3) := by decide +kernel
theorem dX4_go_87 : decode cX4_go 87 = .ok (.iconst 1, 1) := by decide +kernel
theorem dX4_go_88 : decode cX4_go 88 = .ok (.goto 4, 3) := by decide +kernel
theorem dX4_go_91 : decode cX4_go 91 = .ok (.iconst 0, 1) := by decide +kernel
theorem dX4_go_92 : decode cX4_go 92 = .ok (.istore_n 3, 1) := by decide +kernel
theorem dX4_go_93 : decode cX4_go 93 = .ok (.goto (-79), 3) := by decide +kernel
theorem dX4_go_96 : decode cX4_go 96 = .ok (.iload_n 2, 1) := by decide +kernel
theorem dX4_go_97 : decode cX4_go 97 = .ok (.ireturn, 1) := by decide +kernel
theorem dX4_fault_0 : decode cX4_fault 0 = .ok (.aload_n 0, 1) := by decide +kernel
theorem dX4_fault_1 : decode cX4_fault 1 = .ok (.iconst 0, 1) := by decide +kernel
theorem dX4_fault_2 : decode cX4_fault 2 = .ok (.invokevirtual 182, 3) := by decide +kernel
theorem dX4_fault_5 : decode cX4_fault 5 = .ok (.istore_n 1, 1) := by decide +kernel
theorem dX4_fault_6 : decode cX4_fault 6 = .ok (.aload_n 0, 1) := by decide +kernel
theorem dX4_fault_7 : decode cX4_fault 7 = .ok (.getfield 165, 3) := by decide +kernel
theorem dX4_fault_10 : decode cX4_fault 10 = .ok (.ifCond .eq 10, 3) := by decide +kernel
theorem dX4_fault_13 : decode cX4_fault 13 = .ok (.aload_n 0, 1) := by decide +kernel
theorem dX4_fault_14 : decode cX4_fault 14 = .ok (.getfield 162, 3) := by decide +kernel
theorem dX4_fault_17 : decode cX4_fault 17 = .ok (.goto 5, 3) := by decide +kernel
theorem dX4_fault_20 : decode cX4_fault 20 = .ok (.bipush (-6), 2) := by decide +kernel
theorem dX4_fault_22 : decode cX4_fault 22 = .ok (.ireturn, 1) := by decide +kernel
theorem dX4_carryOut_0 : decode cX4_carryOut 0 = .ok (.aload_n 0, 1) := by decide +kernel
theorem dX4_carryOut_1 : decode cX4_carryOut 1 = .ok (.iconst 0, 1) := by decide +kernel
theorem dX4_carryOut_2 : decode cX4_carryOut 2 = .ok (.invokevirtual 182, 3) := by decide +kernel
theorem dX4_carryOut_5 : decode cX4_carryOut 5 = .ok (.istore_n 1, 1) := by decide +kernel
theorem dX4_carryOut_6 : decode cX4_carryOut 6 = .ok (.aload_n 0, 1) := by decide +kernel
theorem dX4_carryOut_7 : decode cX4_carryOut 7 = .ok (.getfield 165, 3) := by decide +kernel
theorem dX4_carryOut_10 : decode cX4_carryOut 10 = .ok (.ifCond .eq 6, 3) := by decide +kernel
theorem dX4_carryOut_13 : decode cX4_carryOut 13 = .ok (.bipush (-3), 2) := by decide +kernel
theorem dX4_carryOut_15 : decode cX4_carryOut 15 = .ok (.ireturn, 1) := by decide +kernel
theorem dX4_carryOut_16 : decode cX4_carryOut 16 = .ok (.aload_n 0, 1) := by decide +kernel
theorem dX4_carryOut_17 : decode cX4_carryOut 17 = .ok (.invokevirtual 107, 3) := by decide +kernel
theorem dX4_carryOut_20 : decode cX4_carryOut 20 = .ok (.aload_n 0, 1) := by decide +kernel
theorem dX4_carryOut_21 : decode cX4_carryOut 21 = .ok (.iconst 1, 1) := by decide +kernel
theorem dX4_carryOut_22 : decode cX4_carryOut 22 = .ok (.invokevirtual 182, 3) := by decide +kernel
theorem dX4_carryOut_25 : decode cX4_carryOut 25 = .ok (.istore_n 2, 1) := by decide +kernel
theorem dX4_carryOut_26 : decode cX4_carryOut 26 = .ok (.aload_n 0, 1) := by decide +kernel
theorem dX4_carryOut_27 : decode cX4_carryOut 27 = .ok (.iconst 0, 1) := by decide +kernel
theorem dX4_carryOut_28 : decode cX4_carryOut 28 = .ok (.putfield 153, 3) := by decide +kernel
theorem dX4_carryOut_31 : decode cX4_carryOut 31 = .ok (.aload_n 0, 1) := by decide +kernel
theorem dX4_carryOut_32 : decode cX4_carryOut 32 = .ok (.iload_n 2, 1) := by decide +kernel
theorem dX4_carryOut_33 : decode cX4_carryOut 33 = .ok (.invokevirtual 110, 3) := by decide +kernel
theorem dX4_carryOut_36 : decode cX4_carryOut 36 = .ok (.ireturn, 1) := by decide +kernel
theorem dX4_undo_0 : decode cX4_undo 0 = .ok (.aload_n 0, 1) := by decide +kernel
theorem dX4_undo_1 : decode cX4_undo 1 = .ok (.getfield 29, 3) := by decide +kernel
theorem dX4_undo_4 : decode cX4_undo 4 = .ok (.ifCond .ne 6, 3) := by decide +kernel
theorem dX4_undo_7 : decode cX4_undo 7 = .ok (.bipush (-5), 2) := by decide +kernel
theorem dX4_undo_9 : decode cX4_undo 9 = .ok (.ireturn, 1) := by decide +kernel
theorem dX4_undo_10 : decode cX4_undo 10 = .ok (.aload_n 0, 1) := by decide +kernel
theorem dX4_undo_11 : decode cX4_undo 11 = .ok (.dup, 1) := by decide +kernel
theorem dX4_undo_12 : decode cX4_undo 12 = .ok (.getfield 29, 3) := by decide +kernel
theorem dX4_undo_15 : decode cX4_undo 15 = .ok (.iconst 1, 1) := by decide +kernel
theorem dX4_undo_16 : decode cX4_undo 16 = .ok (.isub, 1) := by decide +kernel
theorem dX4_undo_17 : decode cX4_undo 17 = .ok (.putfield 29, 3) := by decide +kernel
theorem dX4_undo_20 : decode cX4_undo 20 = .ok (.iconst 0, 1) := by decide +kernel
theorem dX4_undo_21 : decode cX4_undo 21 = .ok (.istore_n 1, 1) := by decide +kernel
theorem dX4_undo_22 : decode cX4_undo 22 = .ok (.iload_n 1, 1) := by decide +kernel
theorem dX4_undo_23 : decode cX4_undo 23 = .ok (.sipush 181, 3) := by decide +kernel
theorem dX4_undo_26 : decode cX4_undo 26 = .ok (.if_icmp .ge 30, 3) := by decide +kernel
theorem dX4_undo_29 : decode cX4_undo 29 = .ok (.aload_n 0, 1) := by decide +kernel
theorem dX4_undo_30 : decode cX4_undo 30 = .ok (.getfield 7, 3) := by decide +kernel
theorem dX4_undo_33 : decode cX4_undo 33 = .ok (.iload_n 1, 1) := by decide +kernel
theorem dX4_undo_34 : decode cX4_undo 34 = .ok (.aload_n 0, 1) := by decide +kernel
theorem dX4_undo_35 : decode cX4_undo 35 = .ok (.getfield 16, 3) := by decide +kernel
theorem dX4_undo_38 : decode cX4_undo 38 = .ok (.sipush 181, 3) := by decide +kernel
theorem dX4_undo_41 : decode cX4_undo 41 = .ok (.aload_n 0, 1) := by decide +kernel
theorem dX4_undo_42 : decode cX4_undo 42 = .ok (.getfield 29, 3) := by decide +kernel
theorem dX4_undo_45 : decode cX4_undo 45 = .ok (.imul, 1) := by decide +kernel
theorem dX4_undo_46 : decode cX4_undo 46 = .ok (.iload_n 1, 1) := by decide +kernel
theorem dX4_undo_47 : decode cX4_undo 47 = .ok (.iadd, 1) := by decide +kernel
theorem dX4_undo_48 : decode cX4_undo 48 = .ok (.iaload, 1) := by decide +kernel
theorem dX4_undo_49 : decode cX4_undo 49 = .ok (.iastore, 1) := by decide +kernel
theorem dX4_undo_50 : decode cX4_undo 50 = .ok (.iinc 1 1, 3) := by decide +kernel
theorem dX4_undo_53 : decode cX4_undo 53 = .ok (.goto (-31), 3) := by decide +kernel
theorem dX4_undo_56 : decode cX4_undo 56 = .ok (.aload_n 0, 1) := by decide +kernel
theorem dX4_undo_57 : decode cX4_undo 57 = .ok (.getfield 29, 3) := by decide +kernel
theorem dX4_undo_60 : decode cX4_undo 60 = .ok (.ireturn, 1) := by decide +kernel
theorem dX4_save_0 : decode cX4_save 0 = .ok (.iload_n 1, 1) := by decide +kernel
theorem dX4_save_1 : decode cX4_save 1 = .ok (.iconst 0, 1) := by decide +kernel
theorem dX4_save_2 : decode cX4_save 2 = .ok (.iconst 1, 1) := by decide +kernel
theorem dX4_save_3 : decode cX4_save 3 = .ok (.invokestatic 33, 3) := by decide +kernel
theorem dX4_save_6 : decode cX4_save 6 = .ok (.ifCond .ne 6, 3) := by decide +kernel
theorem dX4_save_9 : decode cX4_save 9 = .ok (.bipush (-2), 2) := by decide +kernel
theorem dX4_save_11 : decode cX4_save 11 = .ok (.ireturn, 1) := by decide +kernel
theorem dX4_save_12 : decode cX4_save 12 = .ok (.iconst 0, 1) := by decide +kernel
theorem dX4_save_13 : decode cX4_save 13 = .ok (.istore_n 2, 1) := by decide +kernel
theorem dX4_save_14 : decode cX4_save 14 = .ok (.iload_n 2, 1) := by decide +kernel
theorem dX4_save_15 : decode cX4_save 15 = .ok (.sipush 181, 3) := by decide +kernel
theorem dX4_save_18 : decode cX4_save 18 = .ok (.if_icmp .ge 27, 3) := by decide +kernel
theorem dX4_save_21 : decode cX4_save 21 = .ok (.aload_n 0, 1) := by decide +kernel
theorem dX4_save_22 : decode cX4_save 22 = .ok (.getfield 19, 3) := by decide +kernel
theorem dX4_save_25 : decode cX4_save 25 = .ok (.sipush 181, 3) := by decide +kernel
theorem dX4_save_28 : decode cX4_save 28 = .ok (.iload_n 1, 1) := by decide +kernel
theorem dX4_save_29 : decode cX4_save 29 = .ok (.imul, 1) := by decide +kernel
theorem dX4_save_30 : decode cX4_save 30 = .ok (.iload_n 2, 1) := by decide +kernel
theorem dX4_save_31 : decode cX4_save 31 = .ok (.iadd, 1) := by decide +kernel
theorem dX4_save_32 : decode cX4_save 32 = .ok (.aload_n 0, 1) := by decide +kernel
theorem dX4_save_33 : decode cX4_save 33 = .ok (.getfield 7, 3) := by decide +kernel
theorem dX4_save_36 : decode cX4_save 36 = .ok (.iload_n 2, 1) := by decide +kernel
theorem dX4_save_37 : decode cX4_save 37 = .ok (.iaload, 1) := by decide +kernel
theorem dX4_save_38 : decode cX4_save 38 = .ok (.iastore, 1) := by decide +kernel
theorem dX4_save_39 : decode cX4_save 39 = .ok (.iinc 2 1, 3) := by decide +kernel
theorem dX4_save_42 : decode cX4_save 42 = .ok (.goto (-28), 3) := by decide +kernel
theorem dX4_save_45 : decode cX4_save 45 = .ok (.aload_n 0, 1) := by decide +kernel
theorem dX4_save_46 : decode cX4_save 46 = .ok (.getfield 22, 3) := by decide +kernel
theorem dX4_save_49 : decode cX4_save 49 = .ok (.iload_n 1, 1) := by decide +kernel
theorem dX4_save_50 : decode cX4_save 50 = .ok (.iconst 1, 1) := by decide +kernel
theorem dX4_save_51 : decode cX4_save 51 = .ok (.bastore, 1) := by decide +kernel
theorem dX4_save_52 : decode cX4_save 52 = .ok (.aload_n 0, 1) := by decide +kernel
theorem dX4_save_53 : decode cX4_save 53 = .ok (.getfield 7, 3) := by decide +kernel
theorem dX4_save_56 : decode cX4_save 56 = .ok (.bipush 47, 2) := by decide +kernel
theorem dX4_save_58 : decode cX4_save 58 = .ok (.iaload, 1) := by decide +kernel
theorem dX4_save_59 : decode cX4_save 59 = .ok (.ireturn, 1) := by decide +kernel
theorem dX4_restore_0 : decode cX4_restore 0 = .ok (.iload_n 1, 1) := by decide +kernel
theorem dX4_restore_1 : decode cX4_restore 1 = .ok (.iconst 0, 1) := by decide +kernel
theorem dX4_restore_2 : decode cX4_restore 2 = .ok (.iconst 1, 1) := by decide +kernel
theorem dX4_restore_3 : decode cX4_restore 3 = .ok (.invokestatic 33, 3) := by decide +kernel
theorem dX4_restore_6 : decode cX4_restore 6 = .ok (.ifCond .ne 6, 3) := by decide +kernel
theorem dX4_restore_9 : decode cX4_restore 9 = .ok (.bipush (-2), 2) := by decide +kernel
theorem dX4_restore_11 : decode cX4_restore 11 = .ok (.ireturn, 1) := by decide +kernel
theorem dX4_restore_12 : decode cX4_restore 12 = .ok (.aload_n 0, 1) := by decide +kernel
theorem dX4_restore_13 : decode cX4_restore 13 = .ok (.getfield 22, 3) := by decide +kernel
theorem dX4_restore_16 : decode cX4_restore 16 = .ok (.iload_n 1, 1) := by decide +kernel
theorem dX4_restore_17 : decode cX4_restore 17 = .ok (.baload, 1) := by decide +kernel
theorem dX4_restore_18 : decode cX4_restore 18 = .ok (.ifCond .ne 6, 3) := by decide +kernel
theorem dX4_restore_21 : decode cX4_restore 21 = .ok (.bipush (-5), 2) := by decide +kernel
theorem dX4_restore_23 : decode cX4_restore 23 = .ok (.ireturn, 1) := by decide +kernel
theorem dX4_restore_24 : decode cX4_restore 24 = .ok (.aload_n 0, 1) := by decide +kernel
theorem dX4_restore_25 : decode cX4_restore 25 = .ok (.invokevirtual 107, 3) := by decide +kernel
theorem dX4_restore_28 : decode cX4_restore 28 = .ok (.iconst 0, 1) := by decide +kernel
theorem dX4_restore_29 : decode cX4_restore 29 = .ok (.istore_n 2, 1) := by decide +kernel
theorem dX4_restore_30 : decode cX4_restore 30 = .ok (.iload_n 2, 1) := by decide +kernel
theorem dX4_restore_31 : decode cX4_restore 31 = .ok (.sipush 181, 3) := by decide +kernel
theorem dX4_restore_34 : decode cX4_restore 34 = .ok (.if_icmp .ge 27, 3) := by decide +kernel
theorem dX4_restore_37 : decode cX4_restore 37 = .ok (.aload_n 0, 1) := by decide +kernel
theorem dX4_restore_38 : decode cX4_restore 38 = .ok (.getfield 7, 3) := by decide +kernel
theorem dX4_restore_41 : decode cX4_restore 41 = .ok (.iload_n 2, 1) := by decide +kernel
theorem dX4_restore_42 : decode cX4_restore 42 = .ok (.aload_n 0, 1) := by decide +kernel
theorem dX4_restore_43 : decode cX4_restore 43 = .ok (.getfield 19, 3) := by decide +kernel
theorem dX4_restore_46 : decode cX4_restore 46 = .ok (.sipush 181, 3) := by decide +kernel
theorem dX4_restore_49 : decode cX4_restore 49 = .ok (.iload_n 1, 1) := by decide +kernel
theorem dX4_restore_50 : decode cX4_restore 50 = .ok (.imul, 1) := by decide +kernel
theorem dX4_restore_51 : decode cX4_restore 51 = .ok (.iload_n 2, 1) := by decide +kernel
theorem dX4_restore_52 : decode cX4_restore 52 = .ok (.iadd, 1) := by decide +kernel
theorem dX4_restore_53 : decode cX4_restore 53 = .ok (.iaload, 1) := by decide +kernel
theorem dX4_restore_54 : decode cX4_restore 54 = .ok (.iastore, 1) := by decide +kernel
theorem dX4_restore_55 : decode cX4_restore 55 = .ok (.iinc 2 1, 3) := by decide +kernel
theorem dX4_restore_58 : decode cX4_restore 58 = .ok (.goto (-28), 3) := by decide +kernel
theorem dX4_restore_61 : decode cX4_restore 61 = .ok (.aload_n 0, 1) := by decide +kernel
theorem dX4_restore_62 : decode cX4_restore 62 = .ok (.aload_n 0, 1) := by decide +kernel
theorem dX4_restore_63 : decode cX4_restore 63 = .ok (.getfield 7, 3) := by decide +kernel
theorem dX4_restore_66 : decode cX4_restore 66 = .ok (.bipush 47, 2) := by decide +kernel
theorem dX4_restore_68 : decode cX4_restore 68 = .ok (.iaload, 1) := by decide +kernel
theorem dX4_restore_69 : decode cX4_restore 69 = .ok (.invokevirtual 110, 3) := by decide +kernel
theorem dX4_restore_72 : decode cX4_restore 72 = .ok (.ireturn, 1) := by decide +kernel
theorem dJ6_bitCount_0f7a4_0 : decode cJ6_bitCount_0f7a4 0 = .ok (.iload_n 0, 1) := by decide +kernel
theorem dJ6_bitCount_0f7a4_1 : decode cJ6_bitCount_0f7a4 1 = .ok (.iload_n 0, 1) := by decide +kernel
theorem dJ6_bitCount_0f7a4_2 : decode cJ6_bitCount_0f7a4 2 = .ok (.iconst 1, 1) := by decide +kernel
theorem dJ6_bitCount_0f7a4_3 : decode cJ6_bitCount_0f7a4 3 = .ok (.iushr, 1) := by decide +kernel
theorem dJ6_bitCount_0f7a4_4 : decode cJ6_bitCount_0f7a4 4 = .ok (.ldc_w 265, 3) := by decide +kernel
theorem dJ6_bitCount_0f7a4_7 : decode cJ6_bitCount_0f7a4 7 = .ok (.iand, 1) := by decide +kernel
theorem dJ6_bitCount_0f7a4_8 : decode cJ6_bitCount_0f7a4 8 = .ok (.isub, 1) := by decide +kernel
theorem dJ6_bitCount_0f7a4_9 : decode cJ6_bitCount_0f7a4 9 = .ok (.istore_n 0, 1) := by decide +kernel
theorem dJ6_bitCount_0f7a4_10 : decode cJ6_bitCount_0f7a4 10 = .ok (.iload_n 0, 1) := by decide +kernel
theorem dJ6_bitCount_0f7a4_11 : decode cJ6_bitCount_0f7a4 11 = .ok (.ldc_w 266, 3) := by decide +kernel
theorem dJ6_bitCount_0f7a4_14 : decode cJ6_bitCount_0f7a4 14 = .ok (.iand, 1) := by decide +kernel
theorem dJ6_bitCount_0f7a4_15 : decode cJ6_bitCount_0f7a4 15 = .ok (.iload_n 0, 1) := by decide +kernel
theorem dJ6_bitCount_0f7a4_16 : decode cJ6_bitCount_0f7a4 16 = .ok (.iconst 2, 1) := by decide +kernel
theorem dJ6_bitCount_0f7a4_17 : decode cJ6_bitCount_0f7a4 17 = .ok (.iushr, 1) := by decide +kernel
theorem dJ6_bitCount_0f7a4_18 : decode cJ6_bitCount_0f7a4 18 = .ok (.ldc_w 266, 3) := by decide +kernel
theorem dJ6_bitCount_0f7a4_21 : decode cJ6_bitCount_0f7a4 21 = .ok (.iand, 1) := by decide +kernel
theorem dJ6_bitCount_0f7a4_22 : decode cJ6_bitCount_0f7a4 22 = .ok (.iadd, 1) := by decide +kernel
theorem dJ6_bitCount_0f7a4_23 : decode cJ6_bitCount_0f7a4 23 = .ok (.istore_n 0, 1) := by decide +kernel
theorem dJ6_bitCount_0f7a4_24 : decode cJ6_bitCount_0f7a4 24 = .ok (.iload_n 0, 1) := by decide +kernel
theorem dJ6_bitCount_0f7a4_25 : decode cJ6_bitCount_0f7a4 25 = .ok (.iload_n 0, 1) := by decide +kernel
theorem dJ6_bitCount_0f7a4_26 : decode cJ6_bitCount_0f7a4 26 = .ok (.iconst 4, 1) := by decide +kernel
theorem dJ6_bitCount_0f7a4_27 : decode cJ6_bitCount_0f7a4 27 = .ok (.iushr, 1) := by decide +kernel
theorem dJ6_bitCount_0f7a4_28 : decode cJ6_bitCount_0f7a4 28 = .ok (.iadd, 1) := by decide +kernel
theorem dJ6_bitCount_0f7a4_29 : decode cJ6_bitCount_0f7a4 29 = .ok (.ldc_w 267, 3) := by decide +kernel
theorem dJ6_bitCount_0f7a4_32 : decode cJ6_bitCount_0f7a4 32 = .ok (.iand, 1) := by decide +kernel
theorem dJ6_bitCount_0f7a4_33 : decode cJ6_bitCount_0f7a4 33 = .ok (.istore_n 0, 1) := by decide +kernel
theorem dJ6_bitCount_0f7a4_34 : decode cJ6_bitCount_0f7a4 34 = .ok (.iload_n 0, 1) := by decide +kernel
theorem dJ6_bitCount_0f7a4_35 : decode cJ6_bitCount_0f7a4 35 = .ok (.iload_n 0, 1) := by decide +kernel
theorem dJ6_bitCount_0f7a4_36 : decode cJ6_bitCount_0f7a4 36 = .ok (.bipush 8, 2) := by decide +kernel
theorem dJ6_bitCount_0f7a4_38 : decode cJ6_bitCount_0f7a4 38 = .ok (.iushr, 1) := by decide +kernel
theorem dJ6_bitCount_0f7a4_39 : decode cJ6_bitCount_0f7a4 39 = .ok (.iadd, 1) := by decide +kernel
theorem dJ6_bitCount_0f7a4_40 : decode cJ6_bitCount_0f7a4 40 = .ok (.istore_n 0, 1) := by decide +kernel
theorem dJ6_bitCount_0f7a4_41 : decode cJ6_bitCount_0f7a4 41 = .ok (.iload_n 0, 1) := by decide +kernel
theorem dJ6_bitCount_0f7a4_42 : decode cJ6_bitCount_0f7a4 42 = .ok (.iload_n 0, 1) := by decide +kernel
theorem dJ6_bitCount_0f7a4_43 : decode cJ6_bitCount_0f7a4 43 = .ok (.bipush 16, 2) := by decide +kernel
theorem dJ6_bitCount_0f7a4_45 : decode cJ6_bitCount_0f7a4 45 = .ok (.iushr, 1) := by decide +kernel
theorem dJ6_bitCount_0f7a4_46 : decode cJ6_bitCount_0f7a4 46 = .ok (.iadd, 1) := by decide +kernel
theorem dJ6_bitCount_0f7a4_47 : decode cJ6_bitCount_0f7a4 47 = .ok (.istore_n 0, 1) := by decide +kernel
theorem dJ6_bitCount_0f7a4_48 : decode cJ6_bitCount_0f7a4 48 = .ok (.iload_n 0, 1) := by decide +kernel
theorem dJ6_bitCount_0f7a4_49 : decode cJ6_bitCount_0f7a4 49 = .ok (.bipush 63, 2) := by decide +kernel
theorem dJ6_bitCount_0f7a4_51 : decode cJ6_bitCount_0f7a4 51 = .ok (.iand, 1) := by decide +kernel
theorem dJ6_bitCount_0f7a4_52 : decode cJ6_bitCount_0f7a4 52 = .ok (.ireturn, 1) := by decide +kernel
theorem dJ9_floorMod_7cf53_0 : decode cJ9_floorMod_7cf53 0 = .ok (.iload_n 0, 1) := by decide +kernel
theorem dJ9_floorMod_7cf53_1 : decode cJ9_floorMod_7cf53 1 = .ok (.iload_n 1, 1) := by decide +kernel
theorem dJ9_floorMod_7cf53_2 : decode cJ9_floorMod_7cf53 2 = .ok (.irem, 1) := by decide +kernel
theorem dJ9_floorMod_7cf53_3 : decode cJ9_floorMod_7cf53 3 = .ok (.istore_n 2, 1) := by decide +kernel
theorem dJ9_floorMod_7cf53_4 : decode cJ9_floorMod_7cf53 4 = .ok (.iload_n 0, 1) := by decide +kernel
theorem dJ9_floorMod_7cf53_5 : decode cJ9_floorMod_7cf53 5 = .ok (.iload_n 1, 1) := by decide +kernel
theorem dJ9_floorMod_7cf53_6 : decode cJ9_floorMod_7cf53 6 = .ok (.ixor, 1) := by decide +kernel
theorem dJ9_floorMod_7cf53_7 : decode cJ9_floorMod_7cf53 7 = .ok (.ifCond .ge 11, 3) := by decide +kernel
theorem dJ9_floorMod_7cf53_10 : decode cJ9_floorMod_7cf53 10 = .ok (.iload_n 2, 1) := by decide +kernel
theorem dJ9_floorMod_7cf53_11 : decode cJ9_floorMod_7cf53 11 = .ok (.ifCond .eq 7, 3) := by decide +kernel
theorem dJ9_floorMod_7cf53_14 : decode cJ9_floorMod_7cf53 14 = .ok (.iload_n 2, 1) := by decide +kernel
theorem dJ9_floorMod_7cf53_15 : decode cJ9_floorMod_7cf53 15 = .ok (.iload_n 1, 1) := by decide +kernel
theorem dJ9_floorMod_7cf53_16 : decode cJ9_floorMod_7cf53 16 = .ok (.iadd, 1) := by decide +kernel
theorem dJ9_floorMod_7cf53_17 : decode cJ9_floorMod_7cf53 17 = .ok (.ireturn, 1) := by decide +kernel
theorem dJ9_floorMod_7cf53_18 : decode cJ9_floorMod_7cf53 18 = .ok (.iload_n 2, 1) := by decide +kernel
theorem dJ9_floorMod_7cf53_19 : decode cJ9_floorMod_7cf53 19 = .ok (.ireturn, 1) := by decide +kernel
theorem dJ9_max_7cf53_0 : decode cJ9_max_7cf53 0 = .ok (.iload_n 0, 1) := by decide +kernel
theorem dJ9_max_7cf53_1 : decode cJ9_max_7cf53 1 = .ok (.iload_n 1, 1) := by decide +kernel
theorem dJ9_max_7cf53_2 : decode cJ9_max_7cf53 2 = .ok (.if_icmp .lt 7, 3) := by decide +kernel
theorem dJ9_max_7cf53_5 : decode cJ9_max_7cf53 5 = .ok (.iload_n 0, 1) := by decide +kernel
theorem dJ9_max_7cf53_6 : decode cJ9_max_7cf53 6 = .ok (.goto 4, 3) := by decide +kernel
theorem dJ9_max_7cf53_9 : decode cJ9_max_7cf53 9 = .ok (.iload_n 1, 1) := by decide +kernel
theorem dJ9_max_7cf53_10 : decode cJ9_max_7cf53 10 = .ok (.ireturn, 1) := by decide +kernel
theorem dJ9_min_7cf53_0 : decode cJ9_min_7cf53 0 = .ok (.iload_n 0, 1) := by decide +kernel
theorem dJ9_min_7cf53_1 : decode cJ9_min_7cf53 1 = .ok (.iload_n 1, 1) := by decide +kernel
theorem dJ9_min_7cf53_2 : decode cJ9_min_7cf53 2 = .ok (.if_icmp .gt 7, 3) := by decide +kernel
theorem dJ9_min_7cf53_5 : decode cJ9_min_7cf53 5 = .ok (.iload_n 0, 1) := by decide +kernel
theorem dJ9_min_7cf53_6 : decode cJ9_min_7cf53 6 = .ok (.goto 4, 3) := by decide +kernel
theorem dJ9_min_7cf53_9 : decode cJ9_min_7cf53 9 = .ok (.iload_n 1, 1) := by decide +kernel
theorem dJ9_min_7cf53_10 : decode cJ9_min_7cf53 10 = .ok (.ireturn, 1) := by decide +kernel
theorem dJ0_length_8abf5_0 : decode cJ0_length_8abf5 0 = .ok (.aload_n 0, 1) := by decide +kernel
theorem dJ0_length_8abf5_1 : decode cJ0_length_8abf5 1 = .ok (.getfield 9, 3) := by decide +kernel
theorem dJ0_length_8abf5_4 : decode cJ0_length_8abf5 4 = .ok (.arraylength, 1) := by decide +kernel
theorem dJ0_length_8abf5_5 : decode cJ0_length_8abf5 5 = .ok (.aload_n 0, 1) := by decide +kernel
theorem dJ0_length_8abf5_6 : decode cJ0_length_8abf5 6 = .ok (.invokevirtual 335, 3) := by decide +kernel
theorem dJ0_length_8abf5_9 : decode cJ0_length_8abf5 9 = .ok (.ishr, 1) := by decide +kernel
theorem dJ0_length_8abf5_10 : decode cJ0_length_8abf5 10 = .ok (.ireturn, 1) := by decide +kernel
theorem dJ0_isEmpty_aae02_0 : decode cJ0_isEmpty_aae02 0 = .ok (.aload_n 0, 1) := by decide +kernel
theorem dJ0_isEmpty_aae02_1 : decode cJ0_isEmpty_aae02 1 = .ok (.getfield 9, 3) := by decide +kernel
theorem dJ0_isEmpty_aae02_4 : decode cJ0_isEmpty_aae02 4 = .ok (.arraylength, 1) := by decide +kernel
theorem dJ0_isEmpty_aae02_5 : decode cJ0_isEmpty_aae02 5 = .ok (.ifCond .ne 7, 3) := by decide +kernel
theorem dJ0_isEmpty_aae02_8 : decode cJ0_isEmpty_aae02 8 = .ok (.iconst 1, 1) := by decide +kernel
theorem dJ0_isEmpty_aae02_9 : decode cJ0_isEmpty_aae02 9 = .ok (.goto 4, 3) := by decide +kernel
theorem dJ0_isEmpty_aae02_12 : decode cJ0_isEmpty_aae02 12 = .ok (.iconst 0, 1) := by decide +kernel
theorem dJ0_isEmpty_aae02_13 : decode cJ0_isEmpty_aae02 13 = .ok (.ireturn, 1) := by decide +kernel
theorem dJ0_charAt_5068e_0 : decode cJ0_charAt_5068e 0 = .ok (.aload_n 0, 1) := by decide +kernel
theorem dJ0_charAt_5068e_1 : decode cJ0_charAt_5068e 1 = .ok (.invokevirtual 492, 3) := by decide +kernel
theorem dJ0_charAt_5068e_4 : decode cJ0_charAt_5068e 4 = .ok (.ifCond .eq 12, 3) := by decide +kernel
theorem dJ0_charAt_5068e_7 : decode cJ0_charAt_5068e 7 = .ok (.aload_n 0, 1) := by decide +kernel
theorem dJ0_charAt_5068e_8 : decode cJ0_charAt_5068e 8 = .ok (.getfield 9, 3) := by decide +kernel
theorem dJ0_charAt_5068e_11 : decode cJ0_charAt_5068e 11 = .ok (.iload_n 1, 1) := by decide +kernel
theorem dJ0_charAt_5068e_12 : decode cJ0_charAt_5068e 12 = .ok (.invokestatic 495, 3) := by decide +kernel
theorem dJ0_charAt_5068e_15 : decode cJ0_charAt_5068e 15 = .ok (.ireturn, 1) := by decide +kernel
theorem dJ0_charAt_5068e_16 : decode cJ0_charAt_5068e 16 = .ok (.aload_n 0, 1) := by decide +kernel
theorem dJ0_charAt_5068e_17 : decode cJ0_charAt_5068e 17 = .ok (.getfield 9, 3) := by decide +kernel
theorem dJ0_charAt_5068e_20 : decode cJ0_charAt_5068e 20 = .ok (.iload_n 1, 1) := by decide +kernel
theorem dJ0_charAt_5068e_21 : decode cJ0_charAt_5068e 21 = .ok (.invokestatic 498, 3) := by decide +kernel
theorem dJ0_charAt_5068e_24 : decode cJ0_charAt_5068e 24 = .ok (.ireturn, 1) := by decide +kernel
theorem dJ0_coder_7d493_0 : decode cJ0_coder_7d493 0 = .ok (.getstatic 38, 3) := by decide +kernel
theorem dJ0_coder_7d493_3 : decode cJ0_coder_7d493 3 = .ok (.ifCond .eq 10, 3) := by decide +kernel
theorem dJ0_coder_7d493_6 : decode cJ0_coder_7d493 6 = .ok (.aload_n 0, 1) := by decide +kernel
theorem dJ0_coder_7d493_7 : decode cJ0_coder_7d493 7 = .ok (.getfield 15, 3) := by decide +kernel
theorem dJ0_coder_7d493_10 : decode cJ0_coder_7d493 10 = .ok (.goto 4, 3) := by decide +kernel
theorem dJ0_coder_7d493_13 : decode cJ0_coder_7d493 13 = .ok (.iconst 1, 1) := by decide +kernel
theorem dJ0_coder_7d493_14 : decode cJ0_coder_7d493 14 = .ok (.ireturn, 1) := by decide +kernel
theorem dJ0_isLatin1_aae02_0 : decode cJ0_isLatin1_aae02 0 = .ok (.getstatic 38, 3) := by decide +kernel
theorem dJ0_isLatin1_aae02_3 : decode cJ0_isLatin1_aae02 3 = .ok (.ifCond .eq 14, 3) := by decide +kernel
theorem dJ0_isLatin1_aae02_6 : decode cJ0_isLatin1_aae02 6 = .ok (.aload_n 0, 1) := by decide +kernel
theorem dJ0_isLatin1_aae02_7 : decode cJ0_isLatin1_aae02 7 = .ok (.getfield 15, 3) := by decide +kernel
theorem dJ0_isLatin1_aae02_10 : decode cJ0_isLatin1_aae02 10 = .ok (.ifCond .ne 7, 3) := by decide +kernel
theorem dJ0_isLatin1_aae02_13 : decode cJ0_isLatin1_aae02 13 = .ok (.iconst 1, 1) := by decide +kernel
theorem dJ0_isLatin1_aae02_14 : decode cJ0_isLatin1_aae02 14 = .ok (.goto 4, 3) := by decide +kernel
theorem dJ0_isLatin1_aae02_17 : decode cJ0_isLatin1_aae02 17 = .ok (.iconst 0, 1) := by decide +kernel
theorem dJ0_isLatin1_aae02_18 : decode cJ0_isLatin1_aae02 18 = .ok (.ireturn, 1) := by decide +kernel
theorem dJ0_checkIndex_df160_0 : decode cJ0_checkIndex_df160 0 = .ok (.iload_n 0, 1) := by decide +kernel
theorem dJ0_checkIndex_df160_1 : decode cJ0_checkIndex_df160 1 = .ok (.iload_n 1, 1) := by decide +kernel
theorem dJ0_checkIndex_df160_2 : decode cJ0_checkIndex_df160 2 = .ok (.getstatic 1053, 3) := by decide +kernel
theorem dJ0_checkIndex_df160_5 : decode cJ0_checkIndex_df160 5 = .ok (.invokestatic 1059, 3) := by decide +kernel
theorem dJ0_checkIndex_df160_8 : decode cJ0_checkIndex_df160 8 = .ok (.pop, 1) := by decide +kernel
theorem dJ0_checkIndex_df160_9 : decode cJ0_checkIndex_df160 9 = .ok (.return_, 1) := by decide +kernel
theorem dJ1_charAt_3b067_0 : decode cJ1_charAt_3b067 0 = .ok (.iload_n 1, 1) := by decide +kernel
theorem dJ1_charAt_3b067_1 : decode cJ1_charAt_3b067 1 = .ok (.aload_n 0, 1) := by decide +kernel
theorem dJ1_charAt_3b067_2 : decode cJ1_charAt_3b067 2 = .ok (.arraylength, 1) := by decide +kernel
theorem dJ1_charAt_3b067_3 : decode cJ1_charAt_3b067 3 = .ok (.invokestatic 9, 3) := by decide +kernel
theorem dJ1_charAt_3b067_6 : decode cJ1_charAt_3b067 6 = .ok (.aload_n 0, 1) := by decide +kernel
theorem dJ1_charAt_3b067_7 : decode cJ1_charAt_3b067 7 = .ok (.iload_n 1, 1) := by decide +kernel
theorem dJ1_charAt_3b067_8 : decode cJ1_charAt_3b067 8 = .ok (.baload, 1) := by decide +kernel
theorem dJ1_charAt_3b067_9 : decode cJ1_charAt_3b067 9 = .ok (.sipush 255, 3) := by decide +kernel
theorem dJ1_charAt_3b067_12 : decode cJ1_charAt_3b067 12 = .ok (.iand, 1) := by decide +kernel
theorem dJ1_charAt_3b067_13 : decode cJ1_charAt_3b067 13 = .ok (.i2c, 1) := by decide +kernel
theorem dJ1_charAt_3b067_14 : decode cJ1_charAt_3b067 14 = .ok (.ireturn, 1) := by decide +kernel
theorem dJ2_getChar_3b067_0 : decode cJ2_getChar_3b067 0 = .ok (.getstatic 44, 3) := by decide +kernel
theorem dJ2_getChar_3b067_3 : decode cJ2_getChar_3b067 3 = .ok (.ifCond .ne 25, 3) := by decide +kernel
theorem dJ2_getChar_3b067_6 : decode cJ2_getChar_3b067 6 = .ok (.iload_n 1, 1) := by decide +kernel
theorem dJ2_getChar_3b067_7 : decode cJ2_getChar_3b067 7 = .ok (.ifCond .lt 11, 3) := by decide +kernel
theorem dJ2_getChar_3b067_10 : decode cJ2_getChar_3b067 10 = .ok (.iload_n 1, 1) := by decide +kernel
theorem dJ2_getChar_3b067_11 : decode cJ2_getChar_3b067 11 = .ok (.aload_n 0, 1) := by decide +kernel
theorem dJ2_getChar_3b067_12 : decode cJ2_getChar_3b067 12 = .ok (.invokestatic 48, 3) := by decide +kernel
theorem dJ2_getChar_3b067_15 : decode cJ2_getChar_3b067 15 = .ok (.if_icmp .lt 13, 3) := by decide +kernel
theorem dJ2_getChar_3b067_18 : decode cJ2_getChar_3b067 18 = .ok (.new 52, 3) := by decide +kernel
theorem dJ2_getChar_3b067_21 : decode cJ2_getChar_3b067 21 = .ok (.dup, 1) := by decide +kernel
theorem dJ2_getChar_3b067_22 : decode cJ2_getChar_3b067 22 = .ok (.ldc 54, 2) := by decide +kernel
theorem dJ2_getChar_3b067_24 : decode cJ2_getChar_3b067 24 = .ok (.invokespecial 56, 3) := by decide +kernel
theorem dJ2_getChar_3b067_27 : decode cJ2_getChar_3b067 27 = .ok (.athrow, 1) := by decide +kernel
theorem dJ2_getChar_3b067_28 : decode cJ2_getChar_3b067 28 = .ok (.iload_n 1, 1) := by decide +kernel
theorem dJ2_getChar_3b067_29 : decode cJ2_getChar_3b067 29 = .ok (.iconst 1, 1) := by decide +kernel
theorem dJ2_getChar_3b067_30 : decode cJ2_getChar_3b067 30 = .ok (.ishl, 1) := by decide +kernel
theorem dJ2_getChar_3b067_31 : decode cJ2_getChar_3b067 31 = .ok (.istore_n 1, 1) := by decide +kernel
theorem dJ2_getChar_3b067_32 : decode cJ2_getChar_3b067 32 = .ok (.aload_n 0, 1) := by decide +kernel
theorem dJ2_getChar_3b067_33 : decode cJ2_getChar_3b067 33 = .ok (.iload_n 1, 1) := by decide +kernel
theorem dJ2_getChar_3b067_34 : decode cJ2_getChar_3b067 34 = .ok (.iinc 1 1, 3) := by decide +kernel
theorem dJ2_getChar_3b067_37 : decode cJ2_getChar_3b067 37 = .ok (.baload, 1) := by decide +kernel
theorem dJ2_getChar_3b067_38 : decode cJ2_getChar_3b067 38 = .ok (.sipush 255, 3) := by decide +kernel
theorem dJ2_getChar_3b067_41 : decode cJ2_getChar_3b067 41 = .ok (.iand, 1) := by decide +kernel
theorem dJ2_getChar_3b067_42 : decode cJ2_getChar_3b067 42 = .ok (.getstatic 59, 3) := by decide +kernel
theorem dJ2_getChar_3b067_45 : decode cJ2_getChar_3b067 45 = .ok (.ishl, 1) := by decide +kernel
theorem dJ2_getChar_3b067_46 : decode cJ2_getChar_3b067 46 = .ok (.aload_n 0, 1) := by decide +kernel
theorem dJ2_getChar_3b067_47 : decode cJ2_getChar_3b067 47 = .ok (.iload_n 1, 1) := by decide +kernel
theorem dJ2_getChar_3b067_48 : decode cJ2_getChar_3b067 48 = .ok (.baload, 1) := by decide +kernel
theorem dJ2_getChar_3b067_49 : decode cJ2_getChar_3b067 49 = .ok (.sipush 255, 3) := by decide +kernel
theorem dJ2_getChar_3b067_52 : decode cJ2_getChar_3b067 52 = .ok (.iand, 1) := by decide +kernel
theorem dJ2_getChar_3b067_53 : decode cJ2_getChar_3b067 53 = .ok (.getstatic 63, 3) := by decide +kernel
theorem dJ2_getChar_3b067_56 : decode cJ2_getChar_3b067 56 = .ok (.ishl, 1) := by decide +kernel
theorem dJ2_getChar_3b067_57 : decode cJ2_getChar_3b067 57 = .ok (.ior, 1) := by decide +kernel
theorem dJ2_getChar_3b067_58 : decode cJ2_getChar_3b067 58 = .ok (.i2c, 1) := by decide +kernel
theorem dJ2_getChar_3b067_59 : decode cJ2_getChar_3b067 59 = .ok (.ireturn, 1) := by decide +kernel
theorem dJ2_length_9d52b_0 : decode cJ2_length_9d52b 0 = .ok (.aload_n 0, 1) := by decide +kernel
theorem dJ2_length_9d52b_1 : decode cJ2_length_9d52b 1 = .ok (.arraylength, 1) := by decide +kernel
theorem dJ2_length_9d52b_2 : decode cJ2_length_9d52b 2 = .ok (.iconst 1, 1) := by decide +kernel
theorem dJ2_length_9d52b_3 : decode cJ2_length_9d52b 3 = .ok (.ishr, 1) := by decide +kernel
theorem dJ2_length_9d52b_4 : decode cJ2_length_9d52b 4 = .ok (.ireturn, 1) := by decide +kernel
theorem dJ2_charAt_3b067_0 : decode cJ2_charAt_3b067 0 = .ok (.iload_n 1, 1) := by decide +kernel
theorem dJ2_charAt_3b067_1 : decode cJ2_charAt_3b067 1 = .ok (.aload_n 0, 1) := by decide +kernel
theorem dJ2_charAt_3b067_2 : decode cJ2_charAt_3b067 2 = .ok (.invokestatic 67, 3) := by decide +kernel
theorem dJ2_charAt_3b067_5 : decode cJ2_charAt_3b067 5 = .ok (.aload_n 0, 1) := by decide +kernel
theorem dJ2_charAt_3b067_6 : decode cJ2_charAt_3b067 6 = .ok (.iload_n 1, 1) := by decide +kernel
theorem dJ2_charAt_3b067_7 : decode cJ2_charAt_3b067 7 = .ok (.invokestatic 71, 3) := by decide +kernel
theorem dJ2_charAt_3b067_10 : decode cJ2_charAt_3b067 10 = .ok (.ireturn, 1) := by decide +kernel
theorem dJ2_checkIndex_2214a_0 : decode cJ2_checkIndex_2214a 0 = .ok (.iload_n 0, 1) := by decide +kernel
theorem dJ2_checkIndex_2214a_1 : decode cJ2_checkIndex_2214a 1 = .ok (.aload_n 1, 1) := by decide +kernel
theorem dJ2_checkIndex_2214a_2 : decode cJ2_checkIndex_2214a 2 = .ok (.invokestatic 48, 3) := by decide +kernel
theorem dJ2_checkIndex_2214a_5 : decode cJ2_checkIndex_2214a 5 = .ok (.invokestatic 414, 3) := by decide +kernel
theorem dJ2_checkIndex_2214a_8 : decode cJ2_checkIndex_2214a 8 = .ok (.return_, 1) := by decide +kernel
theorem dJ3_checkIndex_8e157_0 : decode cJ3_checkIndex_8e157 0 = .ok (.iload_n 0, 1) := by decide +kernel
theorem dJ3_checkIndex_8e157_1 : decode cJ3_checkIndex_8e157 1 = .ok (.ifCond .lt 8, 3) := by decide +kernel
theorem dJ3_checkIndex_8e157_4 : decode cJ3_checkIndex_8e157 4 = .ok (.iload_n 0, 1) := by decide +kernel
theorem dJ3_checkIndex_8e157_5 : decode cJ3_checkIndex_8e157 5 = .ok (.iload_n 1, 1) := by decide +kernel
theorem dJ3_checkIndex_8e157_6 : decode cJ3_checkIndex_8e157 6 = .ok (.if_icmp .lt 10, 3) := by decide +kernel
theorem dJ3_checkIndex_8e157_9 : decode cJ3_checkIndex_8e157 9 = .ok (.aload_n 2, 1) := by decide +kernel
theorem dJ3_checkIndex_8e157_10 : decode cJ3_checkIndex_8e157 10 = .ok (.iload_n 0, 1) := by decide +kernel
theorem dJ3_checkIndex_8e157_11 : decode cJ3_checkIndex_8e157 11 = .ok (.iload_n 1, 1) := by decide +kernel
theorem dJ3_checkIndex_8e157_12 : decode cJ3_checkIndex_8e157 12 = .ok (.invokestatic 95, 3) := by decide +kernel
theorem dJ3_checkIndex_8e157_15 : decode cJ3_checkIndex_8e157 15 = .ok (.athrow, 1) := by decide +kernel
theorem dJ3_checkIndex_8e157_16 : decode cJ3_checkIndex_8e157 16 = .ok (.iload_n 0, 1) := by decide +kernel
theorem dJ3_checkIndex_8e157_17 : decode cJ3_checkIndex_8e157 17 = .ok (.ireturn, 1) := by decide +kernel
theorem dL_law_0 : decode cL_law 0 = .ok (.new 7, 3) := by decide +kernel
theorem dL_law_3 : decode cL_law 3 = .ok (.dup, 1) := by decide +kernel
theorem dL_law_4 : decode cL_law 4 = .ok (.invokespecial 9, 3) := by decide +kernel
theorem dL_law_7 : decode cL_law 7 = .ok (.astore_n 1, 1) := by decide +kernel
theorem dL_law_8 : decode cL_law 8 = .ok (.new 10, 3) := by decide +kernel
theorem dL_law_11 : decode cL_law 11 = .ok (.dup, 1) := by decide +kernel
theorem dL_law_12 : decode cL_law 12 = .ok (.invokespecial 12, 3) := by decide +kernel
theorem dL_law_15 : decode cL_law 15 = .ok (.astore_n 2, 1) := by decide +kernel
theorem dL_law_16 : decode cL_law 16 = .ok (.iconst 0, 1) := by decide +kernel
theorem dL_law_17 : decode cL_law 17 = .ok (.istore_n 3, 1) := by decide +kernel
theorem dL_law_18 : decode cL_law 18 = .ok (.iload_n 3, 1) := by decide +kernel
theorem dL_law_19 : decode cL_law 19 = .ok (.aload_n 0, 1) := by decide +kernel
theorem dL_law_20 : decode cL_law 20 = .ok (.arraylength, 1) := by decide +kernel
theorem dL_law_21 : decode cL_law 21 = .ok (.iconst 4, 1) := by decide +kernel
theorem dL_law_22 : decode cL_law 22 = .ok (.isub, 1) := by decide +kernel
theorem dL_law_23 : decode cL_law 23 = .ok (.if_icmp .gt 887, 3) := by decide +kernel
theorem dL_law_26 : decode cL_law 26 = .ok (.aload_n 0, 1) := by decide +kernel
theorem dL_law_27 : decode cL_law 27 = .ok (.iload_n 3, 1) := by decide +kernel
theorem dL_law_28 : decode cL_law 28 = .ok (.iaload, 1) := by decide +kernel
theorem dL_law_29 : decode cL_law 29 = .ok (.bipush 31, 2) := by decide +kernel
theorem dL_law_31 : decode cL_law 31 = .ok (.iand, 1) := by decide +kernel
theorem dL_law_32 : decode cL_law 32 = .ok (.tableswitch 872 0 27 #[128, 161, 194, 227, 250, 293, 326, 349, 372, 395, 428, 461, 494, 517, 540, 563, 586, 609, 632, 655, 698, 721, 774, 787, 800, 813, 826, 849], 128) := by decide +kernel
theorem dL_law_160 : decode cL_law 160 = .ok (.aload_n 1, 1) := by decide +kernel
theorem dL_law_161 : decode cL_law 161 = .ok (.aload_n 0, 1) := by decide +kernel
theorem dL_law_162 : decode cL_law 162 = .ok (.iload_n 3, 1) := by decide +kernel
theorem dL_law_163 : decode cL_law 163 = .ok (.iconst 1, 1) := by decide +kernel
theorem dL_law_164 : decode cL_law 164 = .ok (.iadd, 1) := by decide +kernel
theorem dL_law_165 : decode cL_law 165 = .ok (.iaload, 1) := by decide +kernel
theorem dL_law_166 : decode cL_law 166 = .ok (.aload_n 0, 1) := by decide +kernel
theorem dL_law_167 : decode cL_law 167 = .ok (.iload_n 3, 1) := by decide +kernel
theorem dL_law_168 : decode cL_law 168 = .ok (.iconst 2, 1) := by decide +kernel
theorem dL_law_169 : decode cL_law 169 = .ok (.iadd, 1) := by decide +kernel
theorem dL_law_170 : decode cL_law 170 = .ok (.iaload, 1) := by decide +kernel
theorem dL_law_171 : decode cL_law 171 = .ok (.invokevirtual 13, 3) := by decide +kernel
theorem dL_law_174 : decode cL_law 174 = .ok (.aload_n 2, 1) := by decide +kernel
theorem dL_law_175 : decode cL_law 175 = .ok (.aload_n 0, 1) := by decide +kernel
theorem dL_law_176 : decode cL_law 176 = .ok (.iload_n 3, 1) := by decide +kernel
theorem dL_law_177 : decode cL_law 177 = .ok (.iconst 1, 1) := by decide +kernel
theorem dL_law_178 : decode cL_law 178 = .ok (.iadd, 1) := by decide +kernel
theorem dL_law_179 : decode cL_law 179 = .ok (.iaload, 1) := by decide +kernel
theorem dL_law_180 : decode cL_law 180 = .ok (.aload_n 0, 1) := by decide +kernel
theorem dL_law_181 : decode cL_law 181 = .ok (.iload_n 3, 1) := by decide +kernel
theorem dL_law_182 : decode cL_law 182 = .ok (.iconst 2, 1) := by decide +kernel
theorem dL_law_183 : decode cL_law 183 = .ok (.iadd, 1) := by decide +kernel
theorem dL_law_184 : decode cL_law 184 = .ok (.iaload, 1) := by decide +kernel
theorem dL_law_185 : decode cL_law 185 = .ok (.invokevirtual 17, 3) := by decide +kernel
theorem dL_law_188 : decode cL_law 188 = .ok (.if_icmp .eq 716, 3) := by decide +kernel
theorem dL_law_191 : decode cL_law 191 = .ok (.iconst 0, 1) := by decide +kernel
theorem dL_law_192 : decode cL_law 192 = .ok (.ireturn, 1) := by decide +kernel
theorem dL_law_193 : decode cL_law 193 = .ok (.aload_n 1, 1) := by decide +kernel
theorem dL_law_194 : decode cL_law 194 = .ok (.aload_n 0, 1) := by decide +kernel
theorem dL_law_195 : decode cL_law 195 = .ok (.iload_n 3, 1) := by decide +kernel
theorem dL_law_196 : decode cL_law 196 = .ok (.iconst 1, 1) := by decide +kernel
theorem dL_law_197 : decode cL_law 197 = .ok (.iadd, 1) := by decide +kernel
theorem dL_law_198 : decode cL_law 198 = .ok (.iaload, 1) := by decide +kernel
theorem dL_law_199 : decode cL_law 199 = .ok (.aload_n 0, 1) := by decide +kernel
theorem dL_law_200 : decode cL_law 200 = .ok (.iload_n 3, 1) := by decide +kernel
theorem dL_law_201 : decode cL_law 201 = .ok (.iconst 2, 1) := by decide +kernel
theorem dL_law_202 : decode cL_law 202 = .ok (.iadd, 1) := by decide +kernel
theorem dL_law_203 : decode cL_law 203 = .ok (.iaload, 1) := by decide +kernel
theorem dL_law_204 : decode cL_law 204 = .ok (.invokevirtual 18, 3) := by decide +kernel
theorem dL_law_207 : decode cL_law 207 = .ok (.aload_n 2, 1) := by decide +kernel
theorem dL_law_208 : decode cL_law 208 = .ok (.aload_n 0, 1) := by decide +kernel
theorem dL_law_209 : decode cL_law 209 = .ok (.iload_n 3, 1) := by decide +kernel
theorem dL_law_210 : decode cL_law 210 = .ok (.iconst 1, 1) := by decide +kernel
theorem dL_law_211 : decode cL_law 211 = .ok (.iadd, 1) := by decide +kernel
theorem dL_law_212 : decode cL_law 212 = .ok (.iaload, 1) := by decide +kernel
theorem dL_law_213 : decode cL_law 213 = .ok (.aload_n 0, 1) := by decide +kernel
theorem dL_law_214 : decode cL_law 214 = .ok (.iload_n 3, 1) := by decide +kernel
theorem dL_law_215 : decode cL_law 215 = .ok (.iconst 2, 1) := by decide +kernel
theorem dL_law_216 : decode cL_law 216 = .ok (.iadd, 1) := by decide +kernel
theorem dL_law_217 : decode cL_law 217 = .ok (.iaload, 1) := by decide +kernel
theorem dL_law_218 : decode cL_law 218 = .ok (.invokevirtual 21, 3) := by decide +kernel
theorem dL_law_221 : decode cL_law 221 = .ok (.if_icmp .eq 683, 3) := by decide +kernel
theorem dL_law_224 : decode cL_law 224 = .ok (.iconst 0, 1) := by decide +kernel
theorem dL_law_225 : decode cL_law 225 = .ok (.ireturn, 1) := by decide +kernel
theorem dL_law_226 : decode cL_law 226 = .ok (.aload_n 1, 1) := by decide +kernel
theorem dL_law_227 : decode cL_law 227 = .ok (.aload_n 0, 1) := by decide +kernel
theorem dL_law_228 : decode cL_law 228 = .ok (.iload_n 3, 1) := by decide +kernel
theorem dL_law_229 : decode cL_law 229 = .ok (.iconst 1, 1) := by decide +kernel
theorem dL_law_230 : decode cL_law 230 = .ok (.iadd, 1) := by decide +kernel
theorem dL_law_231 : decode cL_law 231 = .ok (.iaload, 1) := by decide +kernel
theorem dL_law_232 : decode cL_law 232 = .ok (.aload_n 0, 1) := by decide +kernel
theorem dL_law_233 : decode cL_law 233 = .ok (.iload_n 3, 1) := by decide +kernel
theorem dL_law_234 : decode cL_law 234 = .ok (.iconst 2, 1) := by decide +kernel
theorem dL_law_235 : decode cL_law 235 = .ok (.iadd, 1) := by decide +kernel
theorem dL_law_236 : decode cL_law 236 = .ok (.iaload, 1) := by decide +kernel
theorem dL_law_237 : decode cL_law 237 = .ok (.invokevirtual 22, 3) := by decide +kernel
theorem dL_law_240 : decode cL_law 240 = .ok (.aload_n 2, 1) := by decide +kernel
theorem dL_law_241 : decode cL_law 241 = .ok (.aload_n 0, 1) := by decide +kernel
theorem dL_law_242 : decode cL_law 242 = .ok (.iload_n 3, 1) := by decide +kernel
theorem dL_law_243 : decode cL_law 243 = .ok (.iconst 1, 1) := by decide +kernel
theorem dL_law_244 : decode cL_law 244 = .ok (.iadd, 1) := by decide +kernel
theorem dL_law_245 : decode cL_law 245 = .ok (.iaload, 1) := by decide +kernel
theorem dL_law_246 : decode cL_law 246 = .ok (.aload_n 0, 1) := by decide +kernel
theorem dL_law_247 : decode cL_law 247 = .ok (.iload_n 3, 1) := by decide +kernel
theorem dL_law_248 : decode cL_law 248 = .ok (.iconst 2, 1) := by decide +kernel
theorem dL_law_249 : decode cL_law 249 = .ok (.iadd, 1) := by decide +kernel
theorem dL_law_250 : decode cL_law 250 = .ok (.iaload, 1) := by decide +kernel
theorem dL_law_251 : decode cL_law 251 = .ok (.invokevirtual 25, 3) := by decide +kernel
theorem dL_law_254 : decode cL_law 254 = .ok (.if_icmp .eq 650, 3) := by decide +kernel
theorem dL_law_257 : decode cL_law 257 = .ok (.iconst 0, 1) := by decide +kernel
theorem dL_law_258 : decode cL_law 258 = .ok (.ireturn, 1) := by decide +kernel
theorem dL_law_259 : decode cL_law 259 = .ok (.aload_n 1, 1) := by decide +kernel
theorem dL_law_260 : decode cL_law 260 = .ok (.aload_n 0, 1) := by decide +kernel
theorem dL_law_261 : decode cL_law 261 = .ok (.iload_n 3, 1) := by decide +kernel
theorem dL_law_262 : decode cL_law 262 = .ok (.iconst 1, 1) := by decide +kernel
theorem dL_law_263 : decode cL_law 263 = .ok (.iadd, 1) := by decide +kernel
theorem dL_law_264 : decode cL_law 264 = .ok (.iaload, 1) := by decide +kernel
theorem dL_law_265 : decode cL_law 265 = .ok (.invokevirtual 26, 3) := by decide +kernel
theorem dL_law_268 : decode cL_law 268 = .ok (.aload_n 2, 1) := by decide +kernel
theorem dL_law_269 : decode cL_law 269 = .ok (.aload_n 0, 1) := by decide +kernel
theorem dL_law_270 : decode cL_law 270 = .ok (.iload_n 3, 1) := by decide +kernel
theorem dL_law_271 : decode cL_law 271 = .ok (.iconst 1, 1) := by decide +kernel
theorem dL_law_272 : decode cL_law 272 = .ok (.iadd, 1) := by decide +kernel
theorem dL_law_273 : decode cL_law 273 = .ok (.iaload, 1) := by decide +kernel
theorem dL_law_274 : decode cL_law 274 = .ok (.invokevirtual 30, 3) := by decide +kernel
theorem dL_law_277 : decode cL_law 277 = .ok (.if_icmp .eq 627, 3) := by decide +kernel
theorem dL_law_280 : decode cL_law 280 = .ok (.iconst 0, 1) := by decide +kernel
theorem dL_law_281 : decode cL_law 281 = .ok (.ireturn, 1) := by decide +kernel
theorem dL_law_282 : decode cL_law 282 = .ok (.aload_n 1, 1) := by decide +kernel
theorem dL_law_283 : decode cL_law 283 = .ok (.aload_n 0, 1) := by decide +kernel
theorem dL_law_284 : decode cL_law 284 = .ok (.iload_n 3, 1) := by decide +kernel
theorem dL_law_285 : decode cL_law 285 = .ok (.iconst 1, 1) := by decide +kernel
theorem dL_law_286 : decode cL_law 286 = .ok (.iadd, 1) := by decide +kernel
theorem dL_law_287 : decode cL_law 287 = .ok (.iaload, 1) := by decide +kernel
theorem dL_law_288 : decode cL_law 288 = .ok (.aload_n 0, 1) := by decide +kernel
theorem dL_law_289 : decode cL_law 289 = .ok (.iload_n 3, 1) := by decide +kernel
theorem dL_law_290 : decode cL_law 290 = .ok (.iconst 2, 1) := by decide +kernel
theorem dL_law_291 : decode cL_law 291 = .ok (.iadd, 1) := by decide +kernel
theorem dL_law_292 : decode cL_law 292 = .ok (.iaload, 1) := by decide +kernel
theorem dL_law_293 : decode cL_law 293 = .ok (.aload_n 0, 1) := by decide +kernel
theorem dL_law_294 : decode cL_law 294 = .ok (.iload_n 3, 1) := by decide +kernel
theorem dL_law_295 : decode cL_law 295 = .ok (.iconst 3, 1) := by decide +kernel
theorem dL_law_296 : decode cL_law 296 = .ok (.iadd, 1) := by decide +kernel
theorem dL_law_297 : decode cL_law 297 = .ok (.iaload, 1) := by decide +kernel
theorem dL_law_298 : decode cL_law 298 = .ok (.invokevirtual 31, 3) := by decide +kernel
theorem dL_law_301 : decode cL_law 301 = .ok (.aload_n 2, 1) := by decide +kernel
theorem dL_law_302 : decode cL_law 302 = .ok (.aload_n 0, 1) := by decide +kernel
theorem dL_law_303 : decode cL_law 303 = .ok (.iload_n 3, 1) := by decide +kernel
theorem dL_law_304 : decode cL_law 304 = .ok (.iconst 1, 1) := by decide +kernel
theorem dL_law_305 : decode cL_law 305 = .ok (.iadd, 1) := by decide +kernel
theorem dL_law_306 : decode cL_law 306 = .ok (.iaload, 1) := by decide +kernel
theorem dL_law_307 : decode cL_law 307 = .ok (.aload_n 0, 1) := by decide +kernel
theorem dL_law_308 : decode cL_law 308 = .ok (.iload_n 3, 1) := by decide +kernel
theorem dL_law_309 : decode cL_law 309 = .ok (.iconst 2, 1) := by decide +kernel
theorem dL_law_310 : decode cL_law 310 = .ok (.iadd, 1) := by decide +kernel
theorem dL_law_311 : decode cL_law 311 = .ok (.iaload, 1) := by decide +kernel
theorem dL_law_312 : decode cL_law 312 = .ok (.aload_n 0, 1) := by decide +kernel
theorem dL_law_313 : decode cL_law 313 = .ok (.iload_n 3, 1) := by decide +kernel
theorem dL_law_314 : decode cL_law 314 = .ok (.iconst 3, 1) := by decide +kernel
theorem dL_law_315 : decode cL_law 315 = .ok (.iadd, 1) := by decide +kernel
theorem dL_law_316 : decode cL_law 316 = .ok (.iaload, 1) := by decide +kernel
theorem dL_law_317 : decode cL_law 317 = .ok (.invokevirtual 35, 3) := by decide +kernel
theorem dL_law_320 : decode cL_law 320 = .ok (.if_icmp .eq 584, 3) := by decide +kernel
theorem dL_law_323 : decode cL_law 323 = .ok (.iconst 0, 1) := by decide +kernel
theorem dL_law_324 : decode cL_law 324 = .ok (.ireturn, 1) := by decide +kernel
theorem dL_law_325 : decode cL_law 325 = .ok (.aload_n 1, 1) := by decide +kernel
theorem dL_law_326 : decode cL_law 326 = .ok (.aload_n 0, 1) := by decide +kernel
theorem dL_law_327 : decode cL_law 327 = .ok (.iload_n 3, 1) := by decide +kernel
theorem dL_law_328 : decode cL_law 328 = .ok (.iconst 1, 1) := by decide +kernel
theorem dL_law_329 : decode cL_law 329 = .ok (.iadd, 1) := by decide +kernel
theorem dL_law_330 : decode cL_law 330 = .ok (.iaload, 1) := by decide +kernel
theorem dL_law_331 : decode cL_law 331 = .ok (.aload_n 0, 1) := by decide +kernel
theorem dL_law_332 : decode cL_law 332 = .ok (.iload_n 3, 1) := by decide +kernel
theorem dL_law_333 : decode cL_law 333 = .ok (.iconst 2, 1) := by decide +kernel
theorem dL_law_334 : decode cL_law 334 = .ok (.iadd, 1) := by decide +kernel
theorem dL_law_335 : decode cL_law 335 = .ok (.iaload, 1) := by decide +kernel
theorem dL_law_336 : decode cL_law 336 = .ok (.invokevirtual 36, 3) := by decide +kernel
theorem dL_law_339 : decode cL_law 339 = .ok (.aload_n 2, 1) := by decide +kernel
theorem dL_law_340 : decode cL_law 340 = .ok (.aload_n 0, 1) := by decide +kernel
theorem dL_law_341 : decode cL_law 341 = .ok (.iload_n 3, 1) := by decide +kernel
theorem dL_law_342 : decode cL_law 342 = .ok (.iconst 1, 1) := by decide +kernel
theorem dL_law_343 : decode cL_law 343 = .ok (.iadd, 1) := by decide +kernel
theorem dL_law_344 : decode cL_law 344 = .ok (.iaload, 1) := by decide +kernel
theorem dL_law_345 : decode cL_law 345 = .ok (.aload_n 0, 1) := by decide +kernel
theorem dL_law_346 : decode cL_law 346 = .ok (.iload_n 3, 1) := by decide +kernel
theorem dL_law_347 : decode cL_law 347 = .ok (.iconst 2, 1) := by decide +kernel
theorem dL_law_348 : decode cL_law 348 = .ok (.iadd, 1) := by decide +kernel
theorem dL_law_349 : decode cL_law 349 = .ok (.iaload, 1) := by decide +kernel
theorem dL_law_350 : decode cL_law 350 = .ok (.invokevirtual 39, 3) := by decide +kernel
theorem dL_law_353 : decode cL_law 353 = .ok (.if_icmp .eq 551, 3) := by decide +kernel
theorem dL_law_356 : decode cL_law 356 = .ok (.iconst 0, 1) := by decide +kernel
theorem dL_law_357 : decode cL_law 357 = .ok (.ireturn, 1) := by decide +kernel
theorem dL_law_358 : decode cL_law 358 = .ok (.aload_n 1, 1) := by decide +kernel
theorem dL_law_359 : decode cL_law 359 = .ok (.aload_n 0, 1) := by decide +kernel
theorem dL_law_360 : decode cL_law 360 = .ok (.iload_n 3, 1) := by decide +kernel
theorem dL_law_361 : decode cL_law 361 = .ok (.iconst 1, 1) := by decide +kernel
theorem dL_law_362 : decode cL_law 362 = .ok (.iadd, 1) := by decide +kernel
theorem dL_law_363 : decode cL_law 363 = .ok (.iaload, 1) := by decide +kernel
theorem dL_law_364 : decode cL_law 364 = .ok (.invokevirtual 40, 3) := by decide +kernel
theorem dL_law_367 : decode cL_law 367 = .ok (.aload_n 2, 1) := by decide +kernel
theorem dL_law_368 : decode cL_law 368 = .ok (.aload_n 0, 1) := by decide +kernel
theorem dL_law_369 : decode cL_law 369 = .ok (.iload_n 3, 1) := by decide +kernel
theorem dL_law_370 : decode cL_law 370 = .ok (.iconst 1, 1) := by decide +kernel
theorem dL_law_371 : decode cL_law 371 = .ok (.iadd, 1) := by decide +kernel
theorem dL_law_372 : decode cL_law 372 = .ok (.iaload, 1) := by decide +kernel
theorem dL_law_373 : decode cL_law 373 = .ok (.invokevirtual 43, 3) := by decide +kernel
theorem dL_law_376 : decode cL_law 376 = .ok (.if_icmp .eq 528, 3) := by decide +kernel
theorem dL_law_379 : decode cL_law 379 = .ok (.iconst 0, 1) := by decide +kernel
theorem dL_law_380 : decode cL_law 380 = .ok (.ireturn, 1) := by decide +kernel
theorem dL_law_381 : decode cL_law 381 = .ok (.aload_n 1, 1) := by decide +kernel
theorem dL_law_382 : decode cL_law 382 = .ok (.aload_n 0, 1) := by decide +kernel
theorem dL_law_383 : decode cL_law 383 = .ok (.iload_n 3, 1) := by decide +kernel
theorem dL_law_384 : decode cL_law 384 = .ok (.iconst 1, 1) := by decide +kernel
theorem dL_law_385 : decode cL_law 385 = .ok (.iadd, 1) := by decide +kernel
theorem dL_law_386 : decode cL_law 386 = .ok (.iaload, 1) := by decide +kernel
theorem dL_law_387 : decode cL_law 387 = .ok (.invokevirtual 44, 3) := by decide +kernel
theorem dL_law_390 : decode cL_law 390 = .ok (.aload_n 2, 1) := by decide +kernel
theorem dL_law_391 : decode cL_law 391 = .ok (.aload_n 0, 1) := by decide +kernel
theorem dL_law_392 : decode cL_law 392 = .ok (.iload_n 3, 1) := by decide +kernel
theorem dL_law_393 : decode cL_law 393 = .ok (.iconst 1, 1) := by decide +kernel
theorem dL_law_394 : decode cL_law 394 = .ok (.iadd, 1) := by decide +kernel
theorem dL_law_395 : decode cL_law 395 = .ok (.iaload, 1) := by decide +kernel
theorem dL_law_396 : decode cL_law 396 = .ok (.invokevirtual 47, 3) := by decide +kernel
theorem dL_law_399 : decode cL_law 399 = .ok (.if_icmp .eq 505, 3) := by decide +kernel
theorem dL_law_402 : decode cL_law 402 = .ok (.iconst 0, 1) := by decide +kernel
theorem dL_law_403 : decode cL_law 403 = .ok (.ireturn, 1) := by decide +kernel
theorem dL_law_404 : decode cL_law 404 = .ok (.aload_n 1, 1) := by decide +kernel
theorem dL_law_405 : decode cL_law 405 = .ok (.aload_n 0, 1) := by decide +kernel
theorem dL_law_406 : decode cL_law 406 = .ok (.iload_n 3, 1) := by decide +kernel
theorem dL_law_407 : decode cL_law 407 = .ok (.iconst 1, 1) := by decide +kernel
theorem dL_law_408 : decode cL_law 408 = .ok (.iadd, 1) := by decide +kernel
theorem dL_law_409 : decode cL_law 409 = .ok (.iaload, 1) := by decide +kernel
theorem dL_law_410 : decode cL_law 410 = .ok (.invokevirtual 48, 3) := by decide +kernel
theorem dL_law_413 : decode cL_law 413 = .ok (.aload_n 2, 1) := by decide +kernel
theorem dL_law_414 : decode cL_law 414 = .ok (.aload_n 0, 1) := by decide +kernel
theorem dL_law_415 : decode cL_law 415 = .ok (.iload_n 3, 1) := by decide +kernel
theorem dL_law_416 : decode cL_law 416 = .ok (.iconst 1, 1) := by decide +kernel
theorem dL_law_417 : decode cL_law 417 = .ok (.iadd, 1) := by decide +kernel
theorem dL_law_418 : decode cL_law 418 = .ok (.iaload, 1) := by decide +kernel
theorem dL_law_419 : decode cL_law 419 = .ok (.invokevirtual 51, 3) := by decide +kernel
theorem dL_law_422 : decode cL_law 422 = .ok (.if_icmp .eq 482, 3) := by decide +kernel
theorem dL_law_425 : decode cL_law 425 = .ok (.iconst 0, 1) := by decide +kernel
theorem dL_law_426 : decode cL_law 426 = .ok (.ireturn, 1) := by decide +kernel
theorem dL_law_427 : decode cL_law 427 = .ok (.aload_n 1, 1) := by decide +kernel
theorem dL_law_428 : decode cL_law 428 = .ok (.aload_n 0, 1) := by decide +kernel
theorem dL_law_429 : decode cL_law 429 = .ok (.iload_n 3, 1) := by decide +kernel
theorem dL_law_430 : decode cL_law 430 = .ok (.iconst 1, 1) := by decide +kernel
theorem dL_law_431 : decode cL_law 431 = .ok (.iadd, 1) := by decide +kernel
theorem dL_law_432 : decode cL_law 432 = .ok (.iaload, 1) := by decide +kernel
theorem dL_law_433 : decode cL_law 433 = .ok (.aload_n 0, 1) := by decide +kernel
theorem dL_law_434 : decode cL_law 434 = .ok (.iload_n 3, 1) := by decide +kernel
theorem dL_law_435 : decode cL_law 435 = .ok (.iconst 2, 1) := by decide +kernel
theorem dL_law_436 : decode cL_law 436 = .ok (.iadd, 1) := by decide +kernel
theorem dL_law_437 : decode cL_law 437 = .ok (.iaload, 1) := by decide +kernel
theorem dL_law_438 : decode cL_law 438 = .ok (.invokevirtual 52, 3) := by decide +kernel
theorem dL_law_441 : decode cL_law 441 = .ok (.aload_n 2, 1) := by decide +kernel
theorem dL_law_442 : decode cL_law 442 = .ok (.aload_n 0, 1) := by decide +kernel
theorem dL_law_443 : decode cL_law 443 = .ok (.iload_n 3, 1) := by decide +kernel
theorem dL_law_444 : decode cL_law 444 = .ok (.iconst 1, 1) := by decide +kernel
theorem dL_law_445 : decode cL_law 445 = .ok (.iadd, 1) := by decide +kernel
theorem dL_law_446 : decode cL_law 446 = .ok (.iaload, 1) := by decide +kernel
theorem dL_law_447 : decode cL_law 447 = .ok (.aload_n 0, 1) := by decide +kernel
theorem dL_law_448 : decode cL_law 448 = .ok (.iload_n 3, 1) := by decide +kernel
theorem dL_law_449 : decode cL_law 449 = .ok (.iconst 2, 1) := by decide +kernel
theorem dL_law_450 : decode cL_law 450 = .ok (.iadd, 1) := by decide +kernel
theorem dL_law_451 : decode cL_law 451 = .ok (.iaload, 1) := by decide +kernel
theorem dL_law_452 : decode cL_law 452 = .ok (.invokevirtual 55, 3) := by decide +kernel
theorem dL_law_455 : decode cL_law 455 = .ok (.if_icmp .eq 449, 3) := by decide +kernel
theorem dL_law_458 : decode cL_law 458 = .ok (.iconst 0, 1) := by decide +kernel
theorem dL_law_459 : decode cL_law 459 = .ok (.ireturn, 1) := by decide +kernel
theorem dL_law_460 : decode cL_law 460 = .ok (.aload_n 1, 1) := by decide +kernel
theorem dL_law_461 : decode cL_law 461 = .ok (.aload_n 0, 1) := by decide +kernel
theorem dL_law_462 : decode cL_law 462 = .ok (.iload_n 3, 1) := by decide +kernel
theorem dL_law_463 : decode cL_law 463 = .ok (.iconst 1, 1) := by decide +kernel
theorem dL_law_464 : decode cL_law 464 = .ok (.iadd, 1) := by decide +kernel
theorem dL_law_465 : decode cL_law 465 = .ok (.iaload, 1) := by decide +kernel
theorem dL_law_466 : decode cL_law 466 = .ok (.aload_n 0, 1) := by decide +kernel
theorem dL_law_467 : decode cL_law 467 = .ok (.iload_n 3, 1) := by decide +kernel
theorem dL_law_468 : decode cL_law 468 = .ok (.iconst 2, 1) := by decide +kernel
theorem dL_law_469 : decode cL_law 469 = .ok (.iadd, 1) := by decide +kernel
theorem dL_law_470 : decode cL_law 470 = .ok (.iaload, 1) := by decide +kernel
theorem dL_law_471 : decode cL_law 471 = .ok (.invokevirtual 56, 3) := by decide +kernel
theorem dL_law_474 : decode cL_law 474 = .ok (.aload_n 2, 1) := by decide +kernel
theorem dL_law_475 : decode cL_law 475 = .ok (.aload_n 0, 1) := by decide +kernel
theorem dL_law_476 : decode cL_law 476 = .ok (.iload_n 3, 1) := by decide +kernel
theorem dL_law_477 : decode cL_law 477 = .ok (.iconst 1, 1) := by decide +kernel
theorem dL_law_478 : decode cL_law 478 = .ok (.iadd, 1) := by decide +kernel
theorem dL_law_479 : decode cL_law 479 = .ok (.iaload, 1) := by decide +kernel
theorem dL_law_480 : decode cL_law 480 = .ok (.aload_n 0, 1) := by decide +kernel
theorem dL_law_481 : decode cL_law 481 = .ok (.iload_n 3, 1) := by decide +kernel
theorem dL_law_482 : decode cL_law 482 = .ok (.iconst 2, 1) := by decide +kernel
theorem dL_law_483 : decode cL_law 483 = .ok (.iadd, 1) := by decide +kernel
theorem dL_law_484 : decode cL_law 484 = .ok (.iaload, 1) := by decide +kernel
theorem dL_law_485 : decode cL_law 485 = .ok (.invokevirtual 59, 3) := by decide +kernel
theorem dL_law_488 : decode cL_law 488 = .ok (.if_icmp .eq 416, 3) := by decide +kernel
theorem dL_law_491 : decode cL_law 491 = .ok (.iconst 0, 1) := by decide +kernel
theorem dL_law_492 : decode cL_law 492 = .ok (.ireturn, 1) := by decide +kernel
theorem dL_law_493 : decode cL_law 493 = .ok (.aload_n 1, 1) := by decide +kernel
theorem dL_law_494 : decode cL_law 494 = .ok (.aload_n 0, 1) := by decide +kernel
theorem dL_law_495 : decode cL_law 495 = .ok (.iload_n 3, 1) := by decide +kernel
theorem dL_law_496 : decode cL_law 496 = .ok (.iconst 1, 1) := by decide +kernel
theorem dL_law_497 : decode cL_law 497 = .ok (.iadd, 1) := by decide +kernel
theorem dL_law_498 : decode cL_law 498 = .ok (.iaload, 1) := by decide +kernel
theorem dL_law_499 : decode cL_law 499 = .ok (.aload_n 0, 1) := by decide +kernel
theorem dL_law_500 : decode cL_law 500 = .ok (.iload_n 3, 1) := by decide +kernel
theorem dL_law_501 : decode cL_law 501 = .ok (.iconst 2, 1) := by decide +kernel
theorem dL_law_502 : decode cL_law 502 = .ok (.iadd, 1) := by decide +kernel
theorem dL_law_503 : decode cL_law 503 = .ok (.iaload, 1) := by decide +kernel
theorem dL_law_504 : decode cL_law 504 = .ok (.invokevirtual 60, 3) := by decide +kernel
theorem dL_law_507 : decode cL_law 507 = .ok (.aload_n 2, 1) := by decide +kernel
theorem dL_law_508 : decode cL_law 508 = .ok (.aload_n 0, 1) := by decide +kernel
theorem dL_law_509 : decode cL_law 509 = .ok (.iload_n 3, 1) := by decide +kernel
theorem dL_law_510 : decode cL_law 510 = .ok (.iconst 1, 1) := by decide +kernel
theorem dL_law_511 : decode cL_law 511 = .ok (.iadd, 1) := by decide +kernel
theorem dL_law_512 : decode cL_law 512 = .ok (.iaload, 1) := by decide +kernel
theorem dL_law_513 : decode cL_law 513 = .ok (.aload_n 0, 1) := by decide +kernel
theorem dL_law_514 : decode cL_law 514 = .ok (.iload_n 3, 1) := by decide +kernel
theorem dL_law_515 : decode cL_law 515 = .ok (.iconst 2, 1) := by decide +kernel
theorem dL_law_516 : decode cL_law 516 = .ok (.iadd, 1) := by decide +kernel
theorem dL_law_517 : decode cL_law 517 = .ok (.iaload, 1) := by decide +kernel
theorem dL_law_518 : decode cL_law 518 = .ok (.invokevirtual 63, 3) := by decide +kernel
theorem dL_law_521 : decode cL_law 521 = .ok (.if_icmp .eq 383, 3) := by decide +kernel
theorem dL_law_524 : decode cL_law 524 = .ok (.iconst 0, 1) := by decide +kernel
theorem dL_law_525 : decode cL_law 525 = .ok (.ireturn, 1) := by decide +kernel
theorem dL_law_526 : decode cL_law 526 = .ok (.aload_n 1, 1) := by decide +kernel
theorem dL_law_527 : decode cL_law 527 = .ok (.aload_n 0, 1) := by decide +kernel
theorem dL_law_528 : decode cL_law 528 = .ok (.iload_n 3, 1) := by decide +kernel
theorem dL_law_529 : decode cL_law 529 = .ok (.iconst 1, 1) := by decide +kernel
theorem dL_law_530 : decode cL_law 530 = .ok (.iadd, 1) := by decide +kernel
theorem dL_law_531 : decode cL_law 531 = .ok (.iaload, 1) := by decide +kernel
theorem dL_law_532 : decode cL_law 532 = .ok (.invokevirtual 64, 3) := by decide +kernel
theorem dL_law_535 : decode cL_law 535 = .ok (.aload_n 2, 1) := by decide +kernel
theorem dL_law_536 : decode cL_law 536 = .ok (.aload_n 0, 1) := by decide +kernel
theorem dL_law_537 : decode cL_law 537 = .ok (.iload_n 3, 1) := by decide +kernel
theorem dL_law_538 : decode cL_law 538 = .ok (.iconst 1, 1) := by decide +kernel
theorem dL_law_539 : decode cL_law 539 = .ok (.iadd, 1) := by decide +kernel
theorem dL_law_540 : decode cL_law 540 = .ok (.iaload, 1) := by decide +kernel
theorem dL_law_541 : decode cL_law 541 = .ok (.invokevirtual 67, 3) := by decide +kernel
theorem dL_law_544 : decode cL_law 544 = .ok (.if_icmp .eq 360, 3) := by decide +kernel
theorem dL_law_547 : decode cL_law 547 = .ok (.iconst 0, 1) := by decide +kernel
theorem dL_law_548 : decode cL_law 548 = .ok (.ireturn, 1) := by decide +kernel
theorem dL_law_549 : decode cL_law 549 = .ok (.aload_n 1, 1) := by decide +kernel
theorem dL_law_550 : decode cL_law 550 = .ok (.aload_n 0, 1) := by decide +kernel
theorem dL_law_551 : decode cL_law 551 = .ok (.iload_n 3, 1) := by decide +kernel
theorem dL_law_552 : decode cL_law 552 = .ok (.iconst 1, 1) := by decide +kernel
theorem dL_law_553 : decode cL_law 553 = .ok (.iadd, 1) := by decide +kernel
theorem dL_law_554 : decode cL_law 554 = .ok (.iaload, 1) := by decide +kernel
theorem dL_law_555 : decode cL_law 555 = .ok (.invokevirtual 68, 3) := by decide +kernel
theorem dL_law_558 : decode cL_law 558 = .ok (.aload_n 2, 1) := by decide +kernel
theorem dL_law_559 : decode cL_law 559 = .ok (.aload_n 0, 1) := by decide +kernel
theorem dL_law_560 : decode cL_law 560 = .ok (.iload_n 3, 1) := by decide +kernel
theorem dL_law_561 : decode cL_law 561 = .ok (.iconst 1, 1) := by decide +kernel
theorem dL_law_562 : decode cL_law 562 = .ok (.iadd, 1) := by decide +kernel
theorem dL_law_563 : decode cL_law 563 = .ok (.iaload, 1) := by decide +kernel
theorem dL_law_564 : decode cL_law 564 = .ok (.invokevirtual 71, 3) := by decide +kernel
theorem dL_law_567 : decode cL_law 567 = .ok (.if_icmp .eq 337, 3) := by decide +kernel
theorem dL_law_570 : decode cL_law 570 = .ok (.iconst 0, 1) := by decide +kernel
theorem dL_law_571 : decode cL_law 571 = .ok (.ireturn, 1) := by decide +kernel
theorem dL_law_572 : decode cL_law 572 = .ok (.aload_n 1, 1) := by decide +kernel
theorem dL_law_573 : decode cL_law 573 = .ok (.aload_n 0, 1) := by decide +kernel
theorem dL_law_574 : decode cL_law 574 = .ok (.iload_n 3, 1) := by decide +kernel
theorem dL_law_575 : decode cL_law 575 = .ok (.iconst 1, 1) := by decide +kernel
theorem dL_law_576 : decode cL_law 576 = .ok (.iadd, 1) := by decide +kernel
theorem dL_law_577 : decode cL_law 577 = .ok (.iaload, 1) := by decide +kernel
theorem dL_law_578 : decode cL_law 578 = .ok (.invokevirtual 72, 3) := by decide +kernel
theorem dL_law_581 : decode cL_law 581 = .ok (.aload_n 2, 1) := by decide +kernel
theorem dL_law_582 : decode cL_law 582 = .ok (.aload_n 0, 1) := by decide +kernel
theorem dL_law_583 : decode cL_law 583 = .ok (.iload_n 3, 1) := by decide +kernel
theorem dL_law_584 : decode cL_law 584 = .ok (.iconst 1, 1) := by decide +kernel
theorem dL_law_585 : decode cL_law 585 = .ok (.iadd, 1) := by decide +kernel
theorem dL_law_586 : decode cL_law 586 = .ok (.iaload, 1) := by decide +kernel
theorem dL_law_587 : decode cL_law 587 = .ok (.invokevirtual 75, 3) := by decide +kernel
theorem dL_law_590 : decode cL_law 590 = .ok (.if_icmp .eq 314, 3) := by decide +kernel
theorem dL_law_593 : decode cL_law 593 = .ok (.iconst 0, 1) := by decide +kernel
theorem dL_law_594 : decode cL_law 594 = .ok (.ireturn, 1) := by decide +kernel
theorem dL_law_595 : decode cL_law 595 = .ok (.aload_n 1, 1) := by decide +kernel
theorem dL_law_596 : decode cL_law 596 = .ok (.aload_n 0, 1) := by decide +kernel
theorem dL_law_597 : decode cL_law 597 = .ok (.iload_n 3, 1) := by decide +kernel
theorem dL_law_598 : decode cL_law 598 = .ok (.iconst 1, 1) := by decide +kernel
theorem dL_law_599 : decode cL_law 599 = .ok (.iadd, 1) := by decide +kernel
theorem dL_law_600 : decode cL_law 600 = .ok (.iaload, 1) := by decide +kernel
theorem dL_law_601 : decode cL_law 601 = .ok (.invokevirtual 76, 3) := by decide +kernel
theorem dL_law_604 : decode cL_law 604 = .ok (.aload_n 2, 1) := by decide +kernel
theorem dL_law_605 : decode cL_law 605 = .ok (.aload_n 0, 1) := by decide +kernel
theorem dL_law_606 : decode cL_law 606 = .ok (.iload_n 3, 1) := by decide +kernel
theorem dL_law_607 : decode cL_law 607 = .ok (.iconst 1, 1) := by decide +kernel
theorem dL_law_608 : decode cL_law 608 = .ok (.iadd, 1) := by decide +kernel
theorem dL_law_609 : decode cL_law 609 = .ok (.iaload, 1) := by decide +kernel
theorem dL_law_610 : decode cL_law 610 = .ok (.invokevirtual 79, 3) := by decide +kernel
theorem dL_law_613 : decode cL_law 613 = .ok (.if_icmp .eq 291, 3) := by decide +kernel
theorem dL_law_616 : decode cL_law 616 = .ok (.iconst 0, 1) := by decide +kernel
theorem dL_law_617 : decode cL_law 617 = .ok (.ireturn, 1) := by decide +kernel
theorem dL_law_618 : decode cL_law 618 = .ok (.aload_n 1, 1) := by decide +kernel
theorem dL_law_619 : decode cL_law 619 = .ok (.aload_n 0, 1) := by decide +kernel
theorem dL_law_620 : decode cL_law 620 = .ok (.iload_n 3, 1) := by decide +kernel
theorem dL_law_621 : decode cL_law 621 = .ok (.iconst 1, 1) := by decide +kernel
theorem dL_law_622 : decode cL_law 622 = .ok (.iadd, 1) := by decide +kernel
theorem dL_law_623 : decode cL_law 623 = .ok (.iaload, 1) := by decide +kernel
theorem dL_law_624 : decode cL_law 624 = .ok (.invokevirtual 80, 3) := by decide +kernel
theorem dL_law_627 : decode cL_law 627 = .ok (.aload_n 2, 1) := by decide +kernel
theorem dL_law_628 : decode cL_law 628 = .ok (.aload_n 0, 1) := by decide +kernel
theorem dL_law_629 : decode cL_law 629 = .ok (.iload_n 3, 1) := by decide +kernel
theorem dL_law_630 : decode cL_law 630 = .ok (.iconst 1, 1) := by decide +kernel
theorem dL_law_631 : decode cL_law 631 = .ok (.iadd, 1) := by decide +kernel
theorem dL_law_632 : decode cL_law 632 = .ok (.iaload, 1) := by decide +kernel
theorem dL_law_633 : decode cL_law 633 = .ok (.invokevirtual 83, 3) := by decide +kernel
theorem dL_law_636 : decode cL_law 636 = .ok (.if_icmp .eq 268, 3) := by decide +kernel
theorem dL_law_639 : decode cL_law 639 = .ok (.iconst 0, 1) := by decide +kernel
theorem dL_law_640 : decode cL_law 640 = .ok (.ireturn, 1) := by decide +kernel
theorem dL_law_641 : decode cL_law 641 = .ok (.aload_n 1, 1) := by decide +kernel
theorem dL_law_642 : decode cL_law 642 = .ok (.aload_n 0, 1) := by decide +kernel
theorem dL_law_643 : decode cL_law 643 = .ok (.iload_n 3, 1) := by decide +kernel
theorem dL_law_644 : decode cL_law 644 = .ok (.iconst 1, 1) := by decide +kernel
theorem dL_law_645 : decode cL_law 645 = .ok (.iadd, 1) := by decide +kernel
theorem dL_law_646 : decode cL_law 646 = .ok (.iaload, 1) := by decide +kernel
theorem dL_law_647 : decode cL_law 647 = .ok (.invokevirtual 84, 3) := by decide +kernel
theorem dL_law_650 : decode cL_law 650 = .ok (.aload_n 2, 1) := by decide +kernel
theorem dL_law_651 : decode cL_law 651 = .ok (.aload_n 0, 1) := by decide +kernel
theorem dL_law_652 : decode cL_law 652 = .ok (.iload_n 3, 1) := by decide +kernel
theorem dL_law_653 : decode cL_law 653 = .ok (.iconst 1, 1) := by decide +kernel
theorem dL_law_654 : decode cL_law 654 = .ok (.iadd, 1) := by decide +kernel
theorem dL_law_655 : decode cL_law 655 = .ok (.iaload, 1) := by decide +kernel
theorem dL_law_656 : decode cL_law 656 = .ok (.invokevirtual 87, 3) := by decide +kernel
theorem dL_law_659 : decode cL_law 659 = .ok (.if_icmp .eq 245, 3) := by decide +kernel
theorem dL_law_662 : decode cL_law 662 = .ok (.iconst 0, 1) := by decide +kernel
theorem dL_law_663 : decode cL_law 663 = .ok (.ireturn, 1) := by decide +kernel
theorem dL_law_664 : decode cL_law 664 = .ok (.aload_n 1, 1) := by decide +kernel
theorem dL_law_665 : decode cL_law 665 = .ok (.aload_n 0, 1) := by decide +kernel
theorem dL_law_666 : decode cL_law 666 = .ok (.iload_n 3, 1) := by decide +kernel
theorem dL_law_667 : decode cL_law 667 = .ok (.iconst 1, 1) := by decide +kernel
theorem dL_law_668 : decode cL_law 668 = .ok (.iadd, 1) := by decide +kernel
theorem dL_law_669 : decode cL_law 669 = .ok (.iaload, 1) := by decide +kernel
theorem dL_law_670 : decode cL_law 670 = .ok (.invokevirtual 88, 3) := by decide +kernel
theorem dL_law_673 : decode cL_law 673 = .ok (.aload_n 2, 1) := by decide +kernel
theorem dL_law_674 : decode cL_law 674 = .ok (.aload_n 0, 1) := by decide +kernel
theorem dL_law_675 : decode cL_law 675 = .ok (.iload_n 3, 1) := by decide +kernel
theorem dL_law_676 : decode cL_law 676 = .ok (.iconst 1, 1) := by decide +kernel
theorem dL_law_677 : decode cL_law 677 = .ok (.iadd, 1) := by decide +kernel
theorem dL_law_678 : decode cL_law 678 = .ok (.iaload, 1) := by decide +kernel
theorem dL_law_679 : decode cL_law 679 = .ok (.invokevirtual 91, 3) := by decide +kernel
theorem dL_law_682 : decode cL_law 682 = .ok (.if_icmp .eq 222, 3) := by decide +kernel
theorem dL_law_685 : decode cL_law 685 = .ok (.iconst 0, 1) := by decide +kernel
theorem dL_law_686 : decode cL_law 686 = .ok (.ireturn, 1) := by decide +kernel
theorem dL_law_687 : decode cL_law 687 = .ok (.aload_n 1, 1) := by decide +kernel
theorem dL_law_688 : decode cL_law 688 = .ok (.aload_n 0, 1) := by decide +kernel
theorem dL_law_689 : decode cL_law 689 = .ok (.iload_n 3, 1) := by decide +kernel
theorem dL_law_690 : decode cL_law 690 = .ok (.iconst 1, 1) := by decide +kernel
theorem dL_law_691 : decode cL_law 691 = .ok (.iadd, 1) := by decide +kernel
theorem dL_law_692 : decode cL_law 692 = .ok (.iaload, 1) := by decide +kernel
theorem dL_law_693 : decode cL_law 693 = .ok (.aload_n 0, 1) := by decide +kernel
theorem dL_law_694 : decode cL_law 694 = .ok (.iload_n 3, 1) := by decide +kernel
theorem dL_law_695 : decode cL_law 695 = .ok (.iconst 2, 1) := by decide +kernel
theorem dL_law_696 : decode cL_law 696 = .ok (.iadd, 1) := by decide +kernel
theorem dL_law_697 : decode cL_law 697 = .ok (.iaload, 1) := by decide +kernel
theorem dL_law_698 : decode cL_law 698 = .ok (.aload_n 0, 1) := by decide +kernel
theorem dL_law_699 : decode cL_law 699 = .ok (.iload_n 3, 1) := by decide +kernel
theorem dL_law_700 : decode cL_law 700 = .ok (.iconst 3, 1) := by decide +kernel
theorem dL_law_701 : decode cL_law 701 = .ok (.iadd, 1) := by decide +kernel
theorem dL_law_702 : decode cL_law 702 = .ok (.iaload, 1) := by decide +kernel
theorem dL_law_703 : decode cL_law 703 = .ok (.invokevirtual 92, 3) := by decide +kernel
theorem dL_law_706 : decode cL_law 706 = .ok (.aload_n 2, 1) := by decide +kernel
theorem dL_law_707 : decode cL_law 707 = .ok (.aload_n 0, 1) := by decide +kernel
theorem dL_law_708 : decode cL_law 708 = .ok (.iload_n 3, 1) := by decide +kernel
theorem dL_law_709 : decode cL_law 709 = .ok (.iconst 1, 1) := by decide +kernel
theorem dL_law_710 : decode cL_law 710 = .ok (.iadd, 1) := by decide +kernel
theorem dL_law_711 : decode cL_law 711 = .ok (.iaload, 1) := by decide +kernel
theorem dL_law_712 : decode cL_law 712 = .ok (.aload_n 0, 1) := by decide +kernel
theorem dL_law_713 : decode cL_law 713 = .ok (.iload_n 3, 1) := by decide +kernel
theorem dL_law_714 : decode cL_law 714 = .ok (.iconst 2, 1) := by decide +kernel
theorem dL_law_715 : decode cL_law 715 = .ok (.iadd, 1) := by decide +kernel
theorem dL_law_716 : decode cL_law 716 = .ok (.iaload, 1) := by decide +kernel
theorem dL_law_717 : decode cL_law 717 = .ok (.aload_n 0, 1) := by decide +kernel
theorem dL_law_718 : decode cL_law 718 = .ok (.iload_n 3, 1) := by decide +kernel
theorem dL_law_719 : decode cL_law 719 = .ok (.iconst 3, 1) := by decide +kernel
theorem dL_law_720 : decode cL_law 720 = .ok (.iadd, 1) := by decide +kernel
theorem dL_law_721 : decode cL_law 721 = .ok (.iaload, 1) := by decide +kernel
theorem dL_law_722 : decode cL_law 722 = .ok (.invokevirtual 95, 3) := by decide +kernel
theorem dL_law_725 : decode cL_law 725 = .ok (.if_icmp .eq 179, 3) := by decide +kernel
theorem dL_law_728 : decode cL_law 728 = .ok (.iconst 0, 1) := by decide +kernel
theorem dL_law_729 : decode cL_law 729 = .ok (.ireturn, 1) := by decide +kernel
theorem dL_law_730 : decode cL_law 730 = .ok (.aload_n 1, 1) := by decide +kernel
theorem dL_law_731 : decode cL_law 731 = .ok (.aload_n 0, 1) := by decide +kernel
theorem dL_law_732 : decode cL_law 732 = .ok (.iload_n 3, 1) := by decide +kernel
theorem dL_law_733 : decode cL_law 733 = .ok (.iconst 1, 1) := by decide +kernel
theorem dL_law_734 : decode cL_law 734 = .ok (.iadd, 1) := by decide +kernel
theorem dL_law_735 : decode cL_law 735 = .ok (.iaload, 1) := by decide +kernel
theorem dL_law_736 : decode cL_law 736 = .ok (.invokevirtual 96, 3) := by decide +kernel
theorem dL_law_739 : decode cL_law 739 = .ok (.aload_n 2, 1) := by decide +kernel
theorem dL_law_740 : decode cL_law 740 = .ok (.aload_n 0, 1) := by decide +kernel
theorem dL_law_741 : decode cL_law 741 = .ok (.iload_n 3, 1) := by decide +kernel
theorem dL_law_742 : decode cL_law 742 = .ok (.iconst 1, 1) := by decide +kernel
theorem dL_law_743 : decode cL_law 743 = .ok (.iadd, 1) := by decide +kernel
theorem dL_law_744 : decode cL_law 744 = .ok (.iaload, 1) := by decide +kernel
theorem dL_law_745 : decode cL_law 745 = .ok (.invokevirtual 99, 3) := by decide +kernel
theorem dL_law_748 : decode cL_law 748 = .ok (.if_icmp .eq 156, 3) := by decide +kernel
theorem dL_law_751 : decode cL_law 751 = .ok (.iconst 0, 1) := by decide +kernel
theorem dL_law_752 : decode cL_law 752 = .ok (.ireturn, 1) := by decide +kernel
theorem dL_law_753 : decode cL_law 753 = .ok (.aload_n 1, 1) := by decide +kernel
theorem dL_law_754 : decode cL_law 754 = .ok (.aload_n 0, 1) := by decide +kernel
theorem dL_law_755 : decode cL_law 755 = .ok (.iload_n 3, 1) := by decide +kernel
theorem dL_law_756 : decode cL_law 756 = .ok (.iconst 1, 1) := by decide +kernel
theorem dL_law_757 : decode cL_law 757 = .ok (.iadd, 1) := by decide +kernel
theorem dL_law_758 : decode cL_law 758 = .ok (.iaload, 1) := by decide +kernel
theorem dL_law_759 : decode cL_law 759 = .ok (.i2l, 1) := by decide +kernel
theorem dL_law_760 : decode cL_law 760 = .ok (.bipush 32, 2) := by decide +kernel
theorem dL_law_762 : decode cL_law 762 = .ok (.lshl, 1) := by decide +kernel
theorem dL_law_763 : decode cL_law 763 = .ok (.aload_n 0, 1) := by decide +kernel
theorem dL_law_764 : decode cL_law 764 = .ok (.iload_n 3, 1) := by decide +kernel
theorem dL_law_765 : decode cL_law 765 = .ok (.iconst 2, 1) := by decide +kernel
theorem dL_law_766 : decode cL_law 766 = .ok (.iadd, 1) := by decide +kernel
theorem dL_law_767 : decode cL_law 767 = .ok (.iaload, 1) := by decide +kernel
theorem dL_law_768 : decode cL_law 768 = .ok (.i2l, 1) := by decide +kernel
theorem dL_law_769 : decode cL_law 769 = .ok (.ldc2_w 100, 3) := by decide +kernel
theorem dL_law_772 : decode cL_law 772 = .ok (.land, 1) := by decide +kernel
theorem dL_law_773 : decode cL_law 773 = .ok (.lor, 1) := by decide +kernel
theorem dL_law_774 : decode cL_law 774 = .ok (.invokevirtual 102, 3) := by decide +kernel
theorem dL_law_777 : decode cL_law 777 = .ok (.aload_n 2, 1) := by decide +kernel
theorem dL_law_778 : decode cL_law 778 = .ok (.aload_n 0, 1) := by decide +kernel
theorem dL_law_779 : decode cL_law 779 = .ok (.iload_n 3, 1) := by decide +kernel
theorem dL_law_780 : decode cL_law 780 = .ok (.iconst 1, 1) := by decide +kernel
theorem dL_law_781 : decode cL_law 781 = .ok (.iadd, 1) := by decide +kernel
theorem dL_law_782 : decode cL_law 782 = .ok (.iaload, 1) := by decide +kernel
theorem dL_law_783 : decode cL_law 783 = .ok (.i2l, 1) := by decide +kernel
theorem dL_law_784 : decode cL_law 784 = .ok (.bipush 32, 2) := by decide +kernel
theorem dL_law_786 : decode cL_law 786 = .ok (.lshl, 1) := by decide +kernel
theorem dL_law_787 : decode cL_law 787 = .ok (.aload_n 0, 1) := by decide +kernel
theorem dL_law_788 : decode cL_law 788 = .ok (.iload_n 3, 1) := by decide +kernel
theorem dL_law_789 : decode cL_law 789 = .ok (.iconst 2, 1) := by decide +kernel
theorem dL_law_790 : decode cL_law 790 = .ok (.iadd, 1) := by decide +kernel
theorem dL_law_791 : decode cL_law 791 = .ok (.iaload, 1) := by decide +kernel
theorem dL_law_792 : decode cL_law 792 = .ok (.i2l, 1) := by decide +kernel
theorem dL_law_793 : decode cL_law 793 = .ok (.ldc2_w 100, 3) := by decide +kernel
theorem dL_law_796 : decode cL_law 796 = .ok (.land, 1) := by decide +kernel
theorem dL_law_797 : decode cL_law 797 = .ok (.lor, 1) := by decide +kernel
theorem dL_law_798 : decode cL_law 798 = .ok (.invokevirtual 106, 3) := by decide +kernel
theorem dL_law_801 : decode cL_law 801 = .ok (.if_icmp .eq 103, 3) := by decide +kernel
theorem dL_law_804 : decode cL_law 804 = .ok (.iconst 0, 1) := by decide +kernel
theorem dL_law_805 : decode cL_law 805 = .ok (.ireturn, 1) := by decide +kernel
theorem dL_law_806 : decode cL_law 806 = .ok (.aload_n 1, 1) := by decide +kernel
theorem dL_law_807 : decode cL_law 807 = .ok (.invokevirtual 107, 3) := by decide +kernel
theorem dL_law_810 : decode cL_law 810 = .ok (.aload_n 2, 1) := by decide +kernel
theorem dL_law_811 : decode cL_law 811 = .ok (.invokevirtual 111, 3) := by decide +kernel
theorem dL_law_814 : decode cL_law 814 = .ok (.if_icmp .eq 90, 3) := by decide +kernel
theorem dL_law_817 : decode cL_law 817 = .ok (.iconst 0, 1) := by decide +kernel
theorem dL_law_818 : decode cL_law 818 = .ok (.ireturn, 1) := by decide +kernel
theorem dL_law_819 : decode cL_law 819 = .ok (.aload_n 1, 1) := by decide +kernel
theorem dL_law_820 : decode cL_law 820 = .ok (.invokevirtual 112, 3) := by decide +kernel
theorem dL_law_823 : decode cL_law 823 = .ok (.aload_n 2, 1) := by decide +kernel
theorem dL_law_824 : decode cL_law 824 = .ok (.invokevirtual 115, 3) := by decide +kernel
theorem dL_law_827 : decode cL_law 827 = .ok (.if_icmp .eq 77, 3) := by decide +kernel
theorem dL_law_830 : decode cL_law 830 = .ok (.iconst 0, 1) := by decide +kernel
theorem dL_law_831 : decode cL_law 831 = .ok (.ireturn, 1) := by decide +kernel
theorem dL_law_832 : decode cL_law 832 = .ok (.aload_n 1, 1) := by decide +kernel
theorem dL_law_833 : decode cL_law 833 = .ok (.invokevirtual 116, 3) := by decide +kernel
theorem dL_law_836 : decode cL_law 836 = .ok (.aload_n 2, 1) := by decide +kernel
theorem dL_law_837 : decode cL_law 837 = .ok (.invokevirtual 119, 3) := by decide +kernel
theorem dL_law_840 : decode cL_law 840 = .ok (.if_icmp .eq 64, 3) := by decide +kernel
theorem dL_law_843 : decode cL_law 843 = .ok (.iconst 0, 1) := by decide +kernel
theorem dL_law_844 : decode cL_law 844 = .ok (.ireturn, 1) := by decide +kernel
theorem dL_law_845 : decode cL_law 845 = .ok (.aload_n 1, 1) := by decide +kernel
theorem dL_law_846 : decode cL_law 846 = .ok (.invokevirtual 120, 3) := by decide +kernel
theorem dL_law_849 : decode cL_law 849 = .ok (.aload_n 2, 1) := by decide +kernel
theorem dL_law_850 : decode cL_law 850 = .ok (.invokevirtual 123, 3) := by decide +kernel
theorem dL_law_853 : decode cL_law 853 = .ok (.if_icmp .eq 51, 3) := by decide +kernel
theorem dL_law_856 : decode cL_law 856 = .ok (.iconst 0, 1) := by decide +kernel
theorem dL_law_857 : decode cL_law 857 = .ok (.ireturn, 1) := by decide +kernel
theorem dL_law_858 : decode cL_law 858 = .ok (.aload_n 1, 1) := by decide +kernel
theorem dL_law_859 : decode cL_law 859 = .ok (.aload_n 0, 1) := by decide +kernel
theorem dL_law_860 : decode cL_law 860 = .ok (.iload_n 3, 1) := by decide +kernel
theorem dL_law_861 : decode cL_law 861 = .ok (.iconst 1, 1) := by decide +kernel
theorem dL_law_862 : decode cL_law 862 = .ok (.iadd, 1) := by decide +kernel
theorem dL_law_863 : decode cL_law 863 = .ok (.iaload, 1) := by decide +kernel
theorem dL_law_864 : decode cL_law 864 = .ok (.invokevirtual 124, 3) := by decide +kernel
theorem dL_law_867 : decode cL_law 867 = .ok (.aload_n 2, 1) := by decide +kernel
theorem dL_law_868 : decode cL_law 868 = .ok (.aload_n 0, 1) := by decide +kernel
theorem dL_law_869 : decode cL_law 869 = .ok (.iload_n 3, 1) := by decide +kernel
theorem dL_law_870 : decode cL_law 870 = .ok (.iconst 1, 1) := by decide +kernel
theorem dL_law_871 : decode cL_law 871 = .ok (.iadd, 1) := by decide +kernel
theorem dL_law_872 : decode cL_law 872 = .ok (.iaload, 1) := by decide +kernel
theorem dL_law_873 : decode cL_law 873 = .ok (.invokevirtual 127, 3) := by decide +kernel
theorem dL_law_876 : decode cL_law 876 = .ok (.if_icmp .eq 28, 3) := by decide +kernel
theorem dL_law_879 : decode cL_law 879 = .ok (.iconst 0, 1) := by decide +kernel
theorem dL_law_880 : decode cL_law 880 = .ok (.ireturn, 1) := by decide +kernel
theorem dL_law_881 : decode cL_law 881 = .ok (.aload_n 1, 1) := by decide +kernel
theorem dL_law_882 : decode cL_law 882 = .ok (.aload_n 0, 1) := by decide +kernel
theorem dL_law_883 : decode cL_law 883 = .ok (.iload_n 3, 1) := by decide +kernel
theorem dL_law_884 : decode cL_law 884 = .ok (.iconst 1, 1) := by decide +kernel
theorem dL_law_885 : decode cL_law 885 = .ok (.iadd, 1) := by decide +kernel
theorem dL_law_886 : decode cL_law 886 = .ok (.iaload, 1) := by decide +kernel
theorem dL_law_887 : decode cL_law 887 = .ok (.invokevirtual 128, 3) := by decide +kernel
theorem dL_law_890 : decode cL_law 890 = .ok (.aload_n 2, 1) := by decide +kernel
theorem dL_law_891 : decode cL_law 891 = .ok (.aload_n 0, 1) := by decide +kernel
theorem dL_law_892 : decode cL_law 892 = .ok (.iload_n 3, 1) := by decide +kernel
theorem dL_law_893 : decode cL_law 893 = .ok (.iconst 1, 1) := by decide +kernel
theorem dL_law_894 : decode cL_law 894 = .ok (.iadd, 1) := by decide +kernel
theorem dL_law_895 : decode cL_law 895 = .ok (.iaload, 1) := by decide +kernel
theorem dL_law_896 : decode cL_law 896 = .ok (.invokevirtual 131, 3) := by decide +kernel
theorem dL_law_899 : decode cL_law 899 = .ok (.if_icmp .eq 5, 3) := by decide +kernel
theorem dL_law_902 : decode cL_law 902 = .ok (.iconst 0, 1) := by decide +kernel
theorem dL_law_903 : decode cL_law 903 = .ok (.ireturn, 1) := by decide +kernel
theorem dL_law_904 : decode cL_law 904 = .ok (.iinc 3 4, 3) := by decide +kernel
theorem dL_law_907 : decode cL_law 907 = .ok (.goto (-889), 3) := by decide +kernel
theorem dL_law_910 : decode cL_law 910 = .ok (.iconst 1, 1) := by decide +kernel
theorem dL_law_911 : decode cL_law 911 = .ok (.ireturn, 1) := by decide +kernel
