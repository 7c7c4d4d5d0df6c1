theorem dX2_hoursUntilDuel_38 : decode cX2_hoursUntilDuel 38 = .ok (.invokevirtual 117, 3) := by decide +kernel
theorem dX2_hoursUntilDuel_41 : decode cX2_hoursUntilDuel 41 = .ok (.isub, 1) := by decide +kernel
theorem dX2_hoursUntilDuel_42 : decode cX2_hoursUntilDuel 42 = .ok (.invokestatic 50, 3) := by decide +kernel
theorem dX2_hoursUntilDuel_45 : decode cX2_hoursUntilDuel 45 = .ok (.istore 4, 2) := by decide +kernel
theorem dX2_hoursUntilDuel_47 : decode cX2_hoursUntilDuel 47 = .ok (.aload_n 0, 1) := by decide +kernel
theorem dX2_hoursUntilDuel_48 : decode cX2_hoursUntilDuel 48 = .ok (.iconst 3, 1) := by decide +kernel
theorem dX2_hoursUntilDuel_49 : decode cX2_hoursUntilDuel 49 = .ok (.invokevirtual 134, 3) := by decide +kernel
theorem dX2_hoursUntilDuel_52 : decode cX2_hoursUntilDuel 52 = .ok (.ifCond .eq 23, 3) := by decide +kernel
theorem dX2_hoursUntilDuel_55 : decode cX2_hoursUntilDuel 55 = .ok (.iload 4, 2) := by decide +kernel
theorem dX2_hoursUntilDuel_57 : decode cX2_hoursUntilDuel 57 = .ok (.aload_n 0, 1) := by decide +kernel
theorem dX2_hoursUntilDuel_58 : decode cX2_hoursUntilDuel 58 = .ok (.iload_n 2, 1) := by decide +kernel
theorem dX2_hoursUntilDuel_59 : decode cX2_hoursUntilDuel 59 = .ok (.invokevirtual 111, 3) := by decide +kernel
theorem dX2_hoursUntilDuel_62 : decode cX2_hoursUntilDuel 62 = .ok (.aload_n 0, 1) := by decide +kernel
theorem dX2_hoursUntilDuel_63 : decode cX2_hoursUntilDuel 63 = .ok (.iload_n 3, 1) := by decide +kernel
theorem dX2_hoursUntilDuel_64 : decode cX2_hoursUntilDuel 64 = .ok (.invokevirtual 111, 3) := by decide +kernel
theorem dX2_hoursUntilDuel_67 : decode cX2_hoursUntilDuel 67 = .ok (.invokestatic 50, 3) := by decide +kernel
theorem dX2_hoursUntilDuel_70 : decode cX2_hoursUntilDuel 70 = .ok (.invokestatic 50, 3) := by decide +kernel
theorem dX2_hoursUntilDuel_73 : decode cX2_hoursUntilDuel 73 = .ok (.istore 4, 2) := by decide +kernel
theorem dX2_hoursUntilDuel_75 : decode cX2_hoursUntilDuel 75 = .ok (.aload_n 0, 1) := by decide +kernel
theorem dX2_hoursUntilDuel_76 : decode cX2_hoursUntilDuel 76 = .ok (.iconst 4, 1) := by decide +kernel
theorem dX2_hoursUntilDuel_77 : decode cX2_hoursUntilDuel 77 = .ok (.invokevirtual 134, 3) := by decide +kernel
theorem dX2_hoursUntilDuel_80 : decode cX2_hoursUntilDuel 80 = .ok (.ifCond .eq 18, 3) := by decide +kernel
theorem dX2_hoursUntilDuel_83 : decode cX2_hoursUntilDuel 83 = .ok (.iload 4, 2) := by decide +kernel
theorem dX2_hoursUntilDuel_85 : decode cX2_hoursUntilDuel 85 = .ok (.aload_n 0, 1) := by decide +kernel
theorem dX2_hoursUntilDuel_86 : decode cX2_hoursUntilDuel 86 = .ok (.iload_n 2, 1) := by decide +kernel
theorem dX2_hoursUntilDuel_87 : decode cX2_hoursUntilDuel 87 = .ok (.iload_n 3, 1) := by decide +kernel
theorem dX2_hoursUntilDuel_88 : decode cX2_hoursUntilDuel 88 = .ok (.invokevirtual 131, 3) := by decide +kernel
theorem dX2_hoursUntilDuel_91 : decode cX2_hoursUntilDuel 91 = .ok (.iconst 1, 1) := by decide +kernel
theorem dX2_hoursUntilDuel_92 : decode cX2_hoursUntilDuel 92 = .ok (.iadd, 1) := by decide +kernel
theorem dX2_hoursUntilDuel_93 : decode cX2_hoursUntilDuel 93 = .ok (.invokestatic 50, 3) := by decide +kernel
theorem dX2_hoursUntilDuel_96 : decode cX2_hoursUntilDuel 96 = .ok (.istore 4, 2) := by decide +kernel
theorem dX2_hoursUntilDuel_98 : decode cX2_hoursUntilDuel 98 = .ok (.aload_n 0, 1) := by decide +kernel
theorem dX2_hoursUntilDuel_99 : decode cX2_hoursUntilDuel 99 = .ok (.iconst 2, 1) := by decide +kernel
theorem dX2_hoursUntilDuel_100 : decode cX2_hoursUntilDuel 100 = .ok (.invokevirtual 134, 3) := by decide +kernel
theorem dX2_hoursUntilDuel_103 : decode cX2_hoursUntilDuel 103 = .ok (.ifCond .eq 18, 3) := by decide +kernel
theorem dX2_hoursUntilDuel_106 : decode cX2_hoursUntilDuel 106 = .ok (.iload 4, 2) := by decide +kernel
theorem dX2_hoursUntilDuel_108 : decode cX2_hoursUntilDuel 108 = .ok (.aload_n 0, 1) := by decide +kernel
theorem dX2_hoursUntilDuel_109 : decode cX2_hoursUntilDuel 109 = .ok (.iload_n 1, 1) := by decide +kernel
theorem dX2_hoursUntilDuel_110 : decode cX2_hoursUntilDuel 110 = .ok (.invokevirtual 137, 3) := by decide +kernel
theorem dX2_hoursUntilDuel_113 : decode cX2_hoursUntilDuel 113 = .ok (.if_icmp .lt 8, 3) := by decide +kernel
theorem dX2_hoursUntilDuel_116 : decode cX2_hoursUntilDuel 116 = .ok (.bipush (-6), 2) := by decide +kernel
theorem dX2_hoursUntilDuel_118 : decode cX2_hoursUntilDuel 118 = .ok (.goto 8, 3) := by decide +kernel
theorem dX2_hoursUntilDuel_121 : decode cX2_hoursUntilDuel 121 = .ok (.iload 4, 2) := by decide +kernel
theorem dX2_hoursUntilDuel_123 : decode cX2_hoursUntilDuel 123 = .ok (.invokestatic 140, 3) := by decide +kernel
theorem dX2_hoursUntilDuel_126 : decode cX2_hoursUntilDuel 126 = .ok (.ireturn, 1) := by decide +kernel
theorem dX2_hoursUntilCool_0 : decode cX2_hoursUntilCool 0 = .ok (.aload_n 0, 1) := by decide +kernel
theorem dX2_hoursUntilCool_1 : decode cX2_hoursUntilCool 1 = .ok (.aload_n 0, 1) := by decide +kernel
theorem dX2_hoursUntilCool_2 : decode cX2_hoursUntilCool 2 = .ok (.bipush 68, 2) := by decide +kernel
theorem dX2_hoursUntilCool_4 : decode cX2_hoursUntilCool 4 = .ok (.iload_n 1, 1) := by decide +kernel
theorem dX2_hoursUntilCool_5 : decode cX2_hoursUntilCool 5 = .ok (.invokevirtual 47, 3) := by decide +kernel
theorem dX2_hoursUntilCool_8 : decode cX2_hoursUntilCool 8 = .ok (.invokevirtual 128, 3) := by decide +kernel
theorem dX2_hoursUntilCool_11 : decode cX2_hoursUntilCool 11 = .ok (.aload_n 0, 1) := by decide +kernel
theorem dX2_hoursUntilCool_12 : decode cX2_hoursUntilCool 12 = .ok (.iload_n 1, 1) := by decide +kernel
theorem dX2_hoursUntilCool_13 : decode cX2_hoursUntilCool 13 = .ok (.invokevirtual 117, 3) := by decide +kernel
theorem dX2_hoursUntilCool_16 : decode cX2_hoursUntilCool 16 = .ok (.isub, 1) := by decide +kernel
theorem dX2_hoursUntilCool_17 : decode cX2_hoursUntilCool 17 = .ok (.ireturn, 1) := by decide +kernel
theorem dX2_orNoneIfTooFar_0 : decode cX2_orNoneIfTooFar 0 = .ok (.iload_n 0, 1) := by decide +kernel
theorem dX2_orNoneIfTooFar_1 : decode cX2_orNoneIfTooFar 1 = .ok (.sipush 500, 3) := by decide +kernel
theorem dX2_orNoneIfTooFar_4 : decode cX2_orNoneIfTooFar 4 = .ok (.if_icmp .le 8, 3) := by decide +kernel
theorem dX2_orNoneIfTooFar_7 : decode cX2_orNoneIfTooFar 7 = .ok (.bipush (-6), 2) := by decide +kernel
theorem dX2_orNoneIfTooFar_9 : decode cX2_orNoneIfTooFar 9 = .ok (.goto 4, 3) := by decide +kernel
theorem dX2_orNoneIfTooFar_12 : decode cX2_orNoneIfTooFar 12 = .ok (.iload_n 0, 1) := by decide +kernel
theorem dX2_orNoneIfTooFar_13 : decode cX2_orNoneIfTooFar 13 = .ok (.ireturn, 1) := by decide +kernel
theorem dX2_winnerOf_0 : decode cX2_winnerOf 0 = .ok (.aload_n 0, 1) := by decide +kernel
theorem dX2_winnerOf_1 : decode cX2_winnerOf 1 = .ok (.bipush 44, 2) := by decide +kernel
theorem dX2_winnerOf_3 : decode cX2_winnerOf 3 = .ok (.iload_n 1, 1) := by decide +kernel
theorem dX2_winnerOf_4 : decode cX2_winnerOf 4 = .ok (.invokevirtual 47, 3) := by decide +kernel
theorem dX2_winnerOf_7 : decode cX2_winnerOf 7 = .ok (.istore_n 2, 1) := by decide +kernel
theorem dX2_winnerOf_8 : decode cX2_winnerOf 8 = .ok (.aload_n 0, 1) := by decide +kernel
theorem dX2_winnerOf_9 : decode cX2_winnerOf 9 = .ok (.bipush 56, 2) := by decide +kernel
theorem dX2_winnerOf_11 : decode cX2_winnerOf 11 = .ok (.iload_n 1, 1) := by decide +kernel
theorem dX2_winnerOf_12 : decode cX2_winnerOf 12 = .ok (.invokevirtual 47, 3) := by decide +kernel
theorem dX2_winnerOf_15 : decode cX2_winnerOf 15 = .ok (.istore_n 3, 1) := by decide +kernel
theorem dX2_winnerOf_16 : decode cX2_winnerOf 16 = .ok (.aload_n 0, 1) := by decide +kernel
theorem dX2_winnerOf_17 : decode cX2_winnerOf 17 = .ok (.iload_n 2, 1) := by decide +kernel
theorem dX2_winnerOf_18 : decode cX2_winnerOf 18 = .ok (.invokevirtual 143, 3) := by decide +kernel
theorem dX2_winnerOf_21 : decode cX2_winnerOf 21 = .ok (.aload_n 0, 1) := by decide +kernel
theorem dX2_winnerOf_22 : decode cX2_winnerOf 22 = .ok (.iload_n 3, 1) := by decide +kernel
theorem dX2_winnerOf_23 : decode cX2_winnerOf 23 = .ok (.invokevirtual 143, 3) := by decide +kernel
theorem dX2_winnerOf_26 : decode cX2_winnerOf 26 = .ok (.if_icmp .le 7, 3) := by decide +kernel
theorem dX2_winnerOf_29 : decode cX2_winnerOf 29 = .ok (.iload_n 2, 1) := by decide +kernel
theorem dX2_winnerOf_30 : decode cX2_winnerOf 30 = .ok (.goto 4, 3) := by decide +kernel
theorem dX2_winnerOf_33 : decode cX2_winnerOf 33 = .ok (.iload_n 3, 1) := by decide +kernel
theorem dX2_winnerOf_34 : decode cX2_winnerOf 34 = .ok (.ireturn, 1) := by decide +kernel
theorem dX2_skillOf_0 : decode cX2_skillOf 0 = .ok (.iconst 2, 1) := by decide +kernel
theorem dX2_skillOf_1 : decode cX2_skillOf 1 = .ok (.aload_n 0, 1) := by decide +kernel
theorem dX2_skillOf_2 : decode cX2_skillOf 2 = .ok (.bipush 14, 2) := by decide +kernel
theorem dX2_skillOf_4 : decode cX2_skillOf 4 = .ok (.iload_n 1, 1) := by decide +kernel
theorem dX2_skillOf_5 : decode cX2_skillOf 5 = .ok (.invokevirtual 47, 3) := by decide +kernel
theorem dX2_skillOf_8 : decode cX2_skillOf 8 = .ok (.imul, 1) := by decide +kernel
theorem dX2_skillOf_9 : decode cX2_skillOf 9 = .ok (.aload_n 0, 1) := by decide +kernel
theorem dX2_skillOf_10 : decode cX2_skillOf 10 = .ok (.iconst 4, 1) := by decide +kernel
theorem dX2_skillOf_11 : decode cX2_skillOf 11 = .ok (.iload_n 1, 1) := by decide +kernel
theorem dX2_skillOf_12 : decode cX2_skillOf 12 = .ok (.invokevirtual 47, 3) := by decide +kernel
theorem dX2_skillOf_15 : decode cX2_skillOf 15 = .ok (.iadd, 1) := by decide +kernel
theorem dX2_skillOf_16 : decode cX2_skillOf 16 = .ok (.ireturn, 1) := by decide +kernel
theorem dX2_tellPerson_0 : decode cX2_tellPerson 0 = .ok (.aload_n 0, 1) := by decide +kernel
theorem dX2_tellPerson_1 : decode cX2_tellPerson 1 = .ok (.iload_n 1, 1) := by decide +kernel
theorem dX2_tellPerson_2 : decode cX2_tellPerson 2 = .ok (.invokevirtual 63, 3) := by decide +kernel
theorem dX2_tellPerson_5 : decode cX2_tellPerson 5 = .ok (.ifCond .ne 5, 3) := by decide +kernel
theorem dX2_tellPerson_8 : decode cX2_tellPerson 8 = .ok (.iconst (-1), 1) := by decide +kernel
theorem dX2_tellPerson_9 : decode cX2_tellPerson 9 = .ok (.ireturn, 1) := by decide +kernel
theorem dX2_tellPerson_10 : decode cX2_tellPerson 10 = .ok (.iload_n 2, 1) := by decide +kernel
theorem dX2_tellPerson_11 : decode cX2_tellPerson 11 = .ok (.tableswitch 115 0 8 #[49, 56, 64, 72, 78, 86, 94, 103, 109], 49) := by decide +kernel
theorem dX2_tellPerson_60 : decode cX2_tellPerson 60 = .ok (.aload_n 0, 1) := by decide +kernel
theorem dX2_tellPerson_61 : decode cX2_tellPerson 61 = .ok (.iconst 4, 1) := by decide +kernel
theorem dX2_tellPerson_62 : decode cX2_tellPerson 62 = .ok (.iload_n 1, 1) := by decide +kernel
theorem dX2_tellPerson_63 : decode cX2_tellPerson 63 = .ok (.invokevirtual 47, 3) := by decide +kernel
theorem dX2_tellPerson_66 : decode cX2_tellPerson 66 = .ok (.ireturn, 1) := by decide +kernel
theorem dX2_tellPerson_67 : decode cX2_tellPerson 67 = .ok (.aload_n 0, 1) := by decide +kernel
theorem dX2_tellPerson_68 : decode cX2_tellPerson 68 = .ok (.bipush 14, 2) := by decide +kernel
theorem dX2_tellPerson_70 : decode cX2_tellPerson 70 = .ok (.iload_n 1, 1) := by decide +kernel
theorem dX2_tellPerson_71 : decode cX2_tellPerson 71 = .ok (.invokevirtual 47, 3) := by decide +kernel
theorem dX2_tellPerson_74 : decode cX2_tellPerson 74 = .ok (.ireturn, 1) := by decide +kernel
theorem dX2_tellPerson_75 : decode cX2_tellPerson 75 = .ok (.aload_n 0, 1) := by decide +kernel
theorem dX2_tellPerson_76 : decode cX2_tellPerson 76 = .ok (.bipush 24, 2) := by decide +kernel
theorem dX2_tellPerson_78 : decode cX2_tellPerson 78 = .ok (.iload_n 1, 1) := by decide +kernel
theorem dX2_tellPerson_79 : decode cX2_tellPerson 79 = .ok (.invokevirtual 47, 3) := by decide +kernel
theorem dX2_tellPerson_82 : decode cX2_tellPerson 82 = .ok (.ireturn, 1) := by decide +kernel
theorem dX2_tellPerson_83 : decode cX2_tellPerson 83 = .ok (.aload_n 0, 1) := by decide +kernel
theorem dX2_tellPerson_84 : decode cX2_tellPerson 84 = .ok (.iload_n 1, 1) := by decide +kernel
theorem dX2_tellPerson_85 : decode cX2_tellPerson 85 = .ok (.invokevirtual 111, 3) := by decide +kernel
theorem dX2_tellPerson_88 : decode cX2_tellPerson 88 = .ok (.ireturn, 1) := by decide +kernel
theorem dX2_tellPerson_89 : decode cX2_tellPerson 89 = .ok (.aload_n 0, 1) := by decide +kernel
theorem dX2_tellPerson_90 : decode cX2_tellPerson 90 = .ok (.bipush 44, 2) := by decide +kernel
theorem dX2_tellPerson_92 : decode cX2_tellPerson 92 = .ok (.iload_n 1, 1) := by decide +kernel
theorem dX2_tellPerson_93 : decode cX2_tellPerson 93 = .ok (.invokevirtual 98, 3) := by decide +kernel
theorem dX2_tellPerson_96 : decode cX2_tellPerson 96 = .ok (.ireturn, 1) := by decide +kernel
theorem dX2_tellPerson_97 : decode cX2_tellPerson 97 = .ok (.aload_n 0, 1) := by decide +kernel
theorem dX2_tellPerson_98 : decode cX2_tellPerson 98 = .ok (.bipush 56, 2) := by decide +kernel
theorem dX2_tellPerson_100 : decode cX2_tellPerson 100 = .ok (.iload_n 1, 1) := by decide +kernel
theorem dX2_tellPerson_101 : decode cX2_tellPerson 101 = .ok (.invokevirtual 98, 3) := by decide +kernel
theorem dX2_tellPerson_104 : decode cX2_tellPerson 104 = .ok (.ireturn, 1) := by decide +kernel
theorem dX2_tellPerson_105 : decode cX2_tellPerson 105 = .ok (.aload_n 0, 1) := by decide +kernel
theorem dX2_tellPerson_106 : decode cX2_tellPerson 106 = .ok (.sipush 128, 3) := by decide +kernel
theorem dX2_tellPerson_109 : decode cX2_tellPerson 109 = .ok (.iload_n 1, 1) := by decide +kernel
theorem dX2_tellPerson_110 : decode cX2_tellPerson 110 = .ok (.invokevirtual 98, 3) := by decide +kernel
theorem dX2_tellPerson_113 : decode cX2_tellPerson 113 = .ok (.ireturn, 1) := by decide +kernel
theorem dX2_tellPerson_114 : decode cX2_tellPerson 114 = .ok (.aload_n 0, 1) := by decide +kernel
theorem dX2_tellPerson_115 : decode cX2_tellPerson 115 = .ok (.iload_n 1, 1) := by decide +kernel
theorem dX2_tellPerson_116 : decode cX2_tellPerson 116 = .ok (.invokevirtual 146, 3) := by decide +kernel
theorem dX2_tellPerson_119 : decode cX2_tellPerson 119 = .ok (.ireturn, 1) := by decide +kernel
theorem dX2_tellPerson_120 : decode cX2_tellPerson 120 = .ok (.aload_n 0, 1) := by decide +kernel
theorem dX2_tellPerson_121 : decode cX2_tellPerson 121 = .ok (.iload_n 1, 1) := by decide +kernel
theorem dX2_tellPerson_122 : decode cX2_tellPerson 122 = .ok (.invokevirtual 149, 3) := by decide +kernel
theorem dX2_tellPerson_125 : decode cX2_tellPerson 125 = .ok (.ireturn, 1) := by decide +kernel
theorem dX2_tellPerson_126 : decode cX2_tellPerson 126 = .ok (.bipush (-2), 2) := by decide +kernel
theorem dX2_tellPerson_128 : decode cX2_tellPerson 128 = .ok (.ireturn, 1) := by decide +kernel
theorem dX2_tellQuarrel_0 : decode cX2_tellQuarrel 0 = .ok (.aload_n 0, 1) := by decide +kernel
theorem dX2_tellQuarrel_1 : decode cX2_tellQuarrel 1 = .ok (.iload_n 1, 1) := by decide +kernel
theorem dX2_tellQuarrel_2 : decode cX2_tellQuarrel 2 = .ok (.invokevirtual 88, 3) := by decide +kernel
theorem dX2_tellQuarrel_5 : decode cX2_tellQuarrel 5 = .ok (.ifCond .ne 5, 3) := by decide +kernel
theorem dX2_tellQuarrel_8 : decode cX2_tellQuarrel 8 = .ok (.iconst (-1), 1) := by decide +kernel
theorem dX2_tellQuarrel_9 : decode cX2_tellQuarrel 9 = .ok (.ireturn, 1) := by decide +kernel
theorem dX2_tellQuarrel_10 : decode cX2_tellQuarrel 10 = .ok (.iload_n 2, 1) := by decide +kernel
theorem dX2_tellQuarrel_11 : decode cX2_tellQuarrel 11 = .ok (.tableswitch 106 0 7 #[45, 53, 61, 69, 75, 83, 91, 100], 45) := by decide +kernel
theorem dX2_tellQuarrel_56 : decode cX2_tellQuarrel 56 = .ok (.aload_n 0, 1) := by decide +kernel
theorem dX2_tellQuarrel_57 : decode cX2_tellQuarrel 57 = .ok (.bipush 44, 2) := by decide +kernel
theorem dX2_tellQuarrel_59 : decode cX2_tellQuarrel 59 = .ok (.iload_n 1, 1) := by decide +kernel
theorem dX2_tellQuarrel_60 : decode cX2_tellQuarrel 60 = .ok (.invokevirtual 47, 3) := by decide +kernel
theorem dX2_tellQuarrel_63 : decode cX2_tellQuarrel 63 = .ok (.ireturn, 1) := by decide +kernel
theorem dX2_tellQuarrel_64 : decode cX2_tellQuarrel 64 = .ok (.aload_n 0, 1) := by decide +kernel
theorem dX2_tellQuarrel_65 : decode cX2_tellQuarrel 65 = .ok (.bipush 56, 2) := by decide +kernel
theorem dX2_tellQuarrel_67 : decode cX2_tellQuarrel 67 = .ok (.iload_n 1, 1) := by decide +kernel
theorem dX2_tellQuarrel_68 : decode cX2_tellQuarrel 68 = .ok (.invokevirtual 47, 3) := by decide +kernel
theorem dX2_tellQuarrel_71 : decode cX2_tellQuarrel 71 = .ok (.ireturn, 1) := by decide +kernel
theorem dX2_tellQuarrel_72 : decode cX2_tellQuarrel 72 = .ok (.aload_n 0, 1) := by decide +kernel
theorem dX2_tellQuarrel_73 : decode cX2_tellQuarrel 73 = .ok (.bipush 68, 2) := by decide +kernel
theorem dX2_tellQuarrel_75 : decode cX2_tellQuarrel 75 = .ok (.iload_n 1, 1) := by decide +kernel
theorem dX2_tellQuarrel_76 : decode cX2_tellQuarrel 76 = .ok (.invokevirtual 47, 3) := by decide +kernel
theorem dX2_tellQuarrel_79 : decode cX2_tellQuarrel 79 = .ok (.ireturn, 1) := by decide +kernel
theorem dX2_tellQuarrel_80 : decode cX2_tellQuarrel 80 = .ok (.aload_n 0, 1) := by decide +kernel
theorem dX2_tellQuarrel_81 : decode cX2_tellQuarrel 81 = .ok (.iload_n 1, 1) := by decide +kernel
theorem dX2_tellQuarrel_82 : decode cX2_tellQuarrel 82 = .ok (.invokevirtual 117, 3) := by decide +kernel
theorem dX2_tellQuarrel_85 : decode cX2_tellQuarrel 85 = .ok (.ireturn, 1) := by decide +kernel
theorem dX2_tellQuarrel_86 : decode cX2_tellQuarrel 86 = .ok (.aload_n 0, 1) := by decide +kernel
theorem dX2_tellQuarrel_87 : decode cX2_tellQuarrel 87 = .ok (.bipush 92, 2) := by decide +kernel
theorem dX2_tellQuarrel_89 : decode cX2_tellQuarrel 89 = .ok (.iload_n 1, 1) := by decide +kernel
theorem dX2_tellQuarrel_90 : decode cX2_tellQuarrel 90 = .ok (.invokevirtual 47, 3) := by decide +kernel
theorem dX2_tellQuarrel_93 : decode cX2_tellQuarrel 93 = .ok (.ireturn, 1) := by decide +kernel
theorem dX2_tellQuarrel_94 : decode cX2_tellQuarrel 94 = .ok (.aload_n 0, 1) := by decide +kernel
theorem dX2_tellQuarrel_95 : decode cX2_tellQuarrel 95 = .ok (.bipush 104, 2) := by decide +kernel
theorem dX2_tellQuarrel_97 : decode cX2_tellQuarrel 97 = .ok (.iload_n 1, 1) := by decide +kernel
theorem dX2_tellQuarrel_98 : decode cX2_tellQuarrel 98 = .ok (.invokevirtual 47, 3) := by decide +kernel
theorem dX2_tellQuarrel_101 : decode cX2_tellQuarrel 101 = .ok (.ireturn, 1) := by decide +kernel
theorem dX2_tellQuarrel_102 : decode cX2_tellQuarrel 102 = .ok (.aload_n 0, 1) := by decide +kernel
theorem dX2_tellQuarrel_103 : decode cX2_tellQuarrel 103 = .ok (.sipush 128, 3) := by decide +kernel
theorem dX2_tellQuarrel_106 : decode cX2_tellQuarrel 106 = .ok (.iload_n 1, 1) := by decide +kernel
theorem dX2_tellQuarrel_107 : decode cX2_tellQuarrel 107 = .ok (.invokevirtual 47, 3) := by decide +kernel
theorem dX2_tellQuarrel_110 : decode cX2_tellQuarrel 110 = .ok (.ireturn, 1) := by decide +kernel
theorem dX2_tellQuarrel_111 : decode cX2_tellQuarrel 111 = .ok (.aload_n 0, 1) := by decide +kernel
theorem dX2_tellQuarrel_112 : decode cX2_tellQuarrel 112 = .ok (.iload_n 1, 1) := by decide +kernel
theorem dX2_tellQuarrel_113 : decode cX2_tellQuarrel 113 = .ok (.invokevirtual 91, 3) := by decide +kernel
theorem dX2_tellQuarrel_116 : decode cX2_tellQuarrel 116 = .ok (.ireturn, 1) := by decide +kernel
theorem dX2_tellQuarrel_117 : decode cX2_tellQuarrel 117 = .ok (.bipush (-2), 2) := by decide +kernel
theorem dX2_tellQuarrel_119 : decode cX2_tellQuarrel 119 = .ok (.ireturn, 1) := by decide +kernel
theorem dX2_tellEvent_0 : decode cX2_tellEvent 0 = .ok (.iload_n 1, 1) := by decide +kernel
theorem dX2_tellEvent_1 : decode cX2_tellEvent 1 = .ok (.ifCond .lt 16, 3) := by decide +kernel
theorem dX2_tellEvent_4 : decode cX2_tellEvent 4 = .ok (.iload_n 1, 1) := by decide +kernel
theorem dX2_tellEvent_5 : decode cX2_tellEvent 5 = .ok (.aload_n 0, 1) := by decide +kernel
theorem dX2_tellEvent_6 : decode cX2_tellEvent 6 = .ok (.getfield 24, 3) := by decide +kernel
theorem dX2_tellEvent_9 : decode cX2_tellEvent 9 = .ok (.bipush 12, 2) := by decide +kernel
theorem dX2_tellEvent_11 : decode cX2_tellEvent 11 = .ok (.invokestatic 35, 3) := by decide +kernel
theorem dX2_tellEvent_14 : decode cX2_tellEvent 14 = .ok (.if_icmp .lt 5, 3) := by decide +kernel
theorem dX2_tellEvent_17 : decode cX2_tellEvent 17 = .ok (.iconst (-1), 1) := by decide +kernel
theorem dX2_tellEvent_18 : decode cX2_tellEvent 18 = .ok (.ireturn, 1) := by decide +kernel
theorem dX2_tellEvent_19 : decode cX2_tellEvent 19 = .ok (.aload_n 0, 1) := by decide +kernel
theorem dX2_tellEvent_20 : decode cX2_tellEvent 20 = .ok (.getfield 24, 3) := by decide +kernel
theorem dX2_tellEvent_23 : decode cX2_tellEvent 23 = .ok (.iconst 1, 1) := by decide +kernel
theorem dX2_tellEvent_24 : decode cX2_tellEvent 24 = .ok (.isub, 1) := by decide +kernel
theorem dX2_tellEvent_25 : decode cX2_tellEvent 25 = .ok (.iload_n 1, 1) := by decide +kernel
theorem dX2_tellEvent_26 : decode cX2_tellEvent 26 = .ok (.isub, 1) := by decide +kernel
theorem dX2_tellEvent_27 : decode cX2_tellEvent 27 = .ok (.bipush 12, 2) := by decide +kernel
theorem dX2_tellEvent_29 : decode cX2_tellEvent 29 = .ok (.invokestatic 114, 3) := by decide +kernel
theorem dX2_tellEvent_32 : decode cX2_tellEvent 32 = .ok (.istore_n 3, 1) := by decide +kernel
theorem dX2_tellEvent_33 : decode cX2_tellEvent 33 = .ok (.iload_n 2, 1) := by decide +kernel
theorem dX2_tellEvent_34 : decode cX2_tellEvent 34 = .ok (.tableswitch 53 0 2 #[26, 35, 44], 26) := by decide +kernel
theorem dX2_tellEvent_60 : decode cX2_tellEvent 60 = .ok (.aload_n 0, 1) := by decide +kernel
theorem dX2_tellEvent_61 : decode cX2_tellEvent 61 = .ok (.sipush 140, 3) := by decide +kernel
theorem dX2_tellEvent_64 : decode cX2_tellEvent 64 = .ok (.iload_n 3, 1) := by decide +kernel
theorem dX2_tellEvent_65 : decode cX2_tellEvent 65 = .ok (.invokevirtual 47, 3) := by decide +kernel
theorem dX2_tellEvent_68 : decode cX2_tellEvent 68 = .ok (.ireturn, 1) := by decide +kernel
theorem dX2_tellEvent_69 : decode cX2_tellEvent 69 = .ok (.aload_n 0, 1) := by decide +kernel
theorem dX2_tellEvent_70 : decode cX2_tellEvent 70 = .ok (.sipush 152, 3) := by decide +kernel
theorem dX2_tellEvent_73 : decode cX2_tellEvent 73 = .ok (.iload_n 3, 1) := by decide +kernel
theorem dX2_tellEvent_74 : decode cX2_tellEvent 74 = .ok (.invokevirtual 47, 3) := by decide +kernel
theorem dX2_tellEvent_77 : decode cX2_tellEvent 77 = .ok (.ireturn, 1) := by decide +kernel
theorem dX2_tellEvent_78 : decode cX2_tellEvent 78 = .ok (.aload_n 0, 1) := by decide +kernel
theorem dX2_tellEvent_79 : decode cX2_tellEvent 79 = .ok (.sipush 164, 3) := by decide +kernel
theorem dX2_tellEvent_82 : decode cX2_tellEvent 82 = .ok (.iload_n 3, 1) := by decide +kernel
theorem dX2_tellEvent_83 : decode cX2_tellEvent 83 = .ok (.invokevirtual 47, 3) := by decide +kernel
theorem dX2_tellEvent_86 : decode cX2_tellEvent 86 = .ok (.ireturn, 1) := by decide +kernel
theorem dX2_tellEvent_87 : decode cX2_tellEvent 87 = .ok (.bipush (-2), 2) := by decide +kernel
theorem dX2_tellEvent_89 : decode cX2_tellEvent 89 = .ok (.ireturn, 1) := by decide +kernel
theorem dX2_quarrelThatPresses_0 : decode cX2_quarrelThatPresses 0 = .ok (.iconst 0, 1) := by decide +kernel
theorem dX2_quarrelThatPresses_1 : decode cX2_quarrelThatPresses 1 = .ok (.istore_n 2, 1) := by decide +kernel
theorem dX2_quarrelThatPresses_2 : decode cX2_quarrelThatPresses 2 = .ok (.iload_n 2, 1) := by decide +kernel
theorem dX2_quarrelThatPresses_3 : decode cX2_quarrelThatPresses 3 = .ok (.aload_n 0, 1) := by decide +kernel
theorem dX2_quarrelThatPresses_4 : decode cX2_quarrelThatPresses 4 = .ok (.getfield 21, 3) := by decide +kernel
theorem dX2_quarrelThatPresses_7 : decode cX2_quarrelThatPresses 7 = .ok (.if_icmp .ge 28, 3) := by decide +kernel
theorem dX2_quarrelThatPresses_10 : decode cX2_quarrelThatPresses 10 = .ok (.aload_n 0, 1) := by decide +kernel
theorem dX2_quarrelThatPresses_11 : decode cX2_quarrelThatPresses 11 = .ok (.iload_n 2, 1) := by decide +kernel
theorem dX2_quarrelThatPresses_12 : decode cX2_quarrelThatPresses 12 = .ok (.invokevirtual 69, 3) := by decide +kernel
theorem dX2_quarrelThatPresses_15 : decode cX2_quarrelThatPresses 15 = .ok (.ifCond .eq 14, 3) := by decide +kernel
theorem dX2_quarrelThatPresses_18 : decode cX2_quarrelThatPresses 18 = .ok (.aload_n 0, 1) := by decide +kernel
theorem dX2_quarrelThatPresses_19 : decode cX2_quarrelThatPresses 19 = .ok (.iload_n 2, 1) := by decide +kernel
theorem dX2_quarrelThatPresses_20 : decode cX2_quarrelThatPresses 20 = .ok (.invokevirtual 152, 3) := by decide +kernel
theorem dX2_quarrelThatPresses_23 : decode cX2_quarrelThatPresses 23 = .ok (.iload_n 1, 1) := by decide +kernel
theorem dX2_quarrelThatPresses_24 : decode cX2_quarrelThatPresses 24 = .ok (.if_icmp .ne 5, 3) := by decide +kernel
theorem dX2_quarrelThatPresses_27 : decode cX2_quarrelThatPresses 27 = .ok (.iload_n 2, 1) := by decide +kernel
theorem dX2_quarrelThatPresses_28 : decode cX2_quarrelThatPresses 28 = .ok (.ireturn, 1) := by decide +kernel
theorem dX2_quarrelThatPresses_29 : decode cX2_quarrelThatPresses 29 = .ok (.iinc 2 1, 3) := by decide +kernel
theorem dX2_quarrelThatPresses_32 : decode cX2_quarrelThatPresses 32 = .ok (.goto (-30), 3) := by decide +kernel
theorem dX2_quarrelThatPresses_35 : decode cX2_quarrelThatPresses 35 = .ok (.iconst (-1), 1) := by decide +kernel
theorem dX2_quarrelThatPresses_36 : decode cX2_quarrelThatPresses 36 = .ok (.ireturn, 1) := by decide +kernel
theorem dX2_quarrelsBefore_0 : decode cX2_quarrelsBefore 0 = .ok (.iconst 0, 1) := by decide +kernel
theorem dX2_quarrelsBefore_1 : decode cX2_quarrelsBefore 1 = .ok (.istore_n 2, 1) := by decide +kernel
theorem dX2_quarrelsBefore_2 : decode cX2_quarrelsBefore 2 = .ok (.iconst 0, 1) := by decide +kernel
theorem dX2_quarrelsBefore_3 : decode cX2_quarrelsBefore 3 = .ok (.istore_n 3, 1) := by decide +kernel
theorem dX2_quarrelsBefore_4 : decode cX2_quarrelsBefore 4 = .ok (.iload_n 3, 1) := by decide +kernel
theorem dX2_quarrelsBefore_5 : decode cX2_quarrelsBefore 5 = .ok (.aload_n 0, 1) := by decide +kernel
theorem dX2_quarrelsBefore_6 : decode cX2_quarrelsBefore 6 = .ok (.getfield 21, 3) := by decide +kernel
theorem dX2_quarrelsBefore_9 : decode cX2_quarrelsBefore 9 = .ok (.if_icmp .ge 48, 3) := by decide +kernel
theorem dX2_quarrelsBefore_12 : decode cX2_quarrelsBefore 12 = .ok (.aload_n 0, 1) := by decide +kernel
theorem dX2_quarrelsBefore_13 : decode cX2_quarrelsBefore 13 = .ok (.iload_n 3, 1) := by decide +kernel
theorem dX2_quarrelsBefore_14 : decode cX2_quarrelsBefore 14 = .ok (.invokevirtual 155, 3) := by decide +kernel
theorem dX2_quarrelsBefore_17 : decode cX2_quarrelsBefore 17 = .ok (.aload_n 0, 1) := by decide +kernel
theorem dX2_quarrelsBefore_18 : decode cX2_quarrelsBefore 18 = .ok (.iload_n 1, 1) := by decide +kernel
theorem dX2_quarrelsBefore_19 : decode cX2_quarrelsBefore 19 = .ok (.invokevirtual 155, 3) := by decide +kernel
theorem dX2_quarrelsBefore_22 : decode cX2_quarrelsBefore 22 = .ok (.isub, 1) := by decide +kernel
theorem dX2_quarrelsBefore_23 : decode cX2_quarrelsBefore 23 = .ok (.istore 4, 2) := by decide +kernel
theorem dX2_quarrelsBefore_25 : decode cX2_quarrelsBefore 25 = .ok (.aload_n 0, 1) := by decide +kernel
theorem dX2_quarrelsBefore_26 : decode cX2_quarrelsBefore 26 = .ok (.iload_n 3, 1) := by decide +kernel
theorem dX2_quarrelsBefore_27 : decode cX2_quarrelsBefore 27 = .ok (.invokevirtual 69, 3) := by decide +kernel
theorem dX2_quarrelsBefore_30 : decode cX2_quarrelsBefore 30 = .ok (.ifCond .eq 21, 3) := by decide +kernel
theorem dX2_quarrelsBefore_33 : decode cX2_quarrelsBefore 33 = .ok (.iload 4, 2) := by decide +kernel
theorem dX2_quarrelsBefore_35 : decode cX2_quarrelsBefore 35 = .ok (.ifCond .gt 13, 3) := by decide +kernel
theorem dX2_quarrelsBefore_38 : decode cX2_quarrelsBefore 38 = .ok (.iload 4, 2) := by decide +kernel
theorem dX2_quarrelsBefore_40 : decode cX2_quarrelsBefore 40 = .ok (.ifCond .ne 11, 3) := by decide +kernel
theorem dX2_quarrelsBefore_43 : decode cX2_quarrelsBefore 43 = .ok (.iload_n 3, 1) := by decide +kernel
theorem dX2_quarrelsBefore_44 : decode cX2_quarrelsBefore 44 = .ok (.iload_n 1, 1) := by decide +kernel
theorem dX2_quarrelsBefore_45 : decode cX2_quarrelsBefore 45 = .ok (.if_icmp .ge 6, 3) := by decide +kernel
theorem dX2_quarrelsBefore_48 : decode cX2_quarrelsBefore 48 = .ok (.iinc 2 1, 3) := by decide +kernel
theorem dX2_quarrelsBefore_51 : decode cX2_quarrelsBefore 51 = .ok (.iinc 3 1, 3) := by decide +kernel
theorem dX2_quarrelsBefore_54 : decode cX2_quarrelsBefore 54 = .ok (.goto (-50), 3) := by decide +kernel
theorem dX2_quarrelsBefore_57 : decode cX2_quarrelsBefore 57 = .ok (.iload_n 2, 1) := by decide +kernel
theorem dX2_quarrelsBefore_58 : decode cX2_quarrelsBefore 58 = .ok (.ireturn, 1) := by decide +kernel
theorem dX2_pressureOf_0 : decode cX2_pressureOf 0 = .ok (.aload_n 0, 1) := by decide +kernel
theorem dX2_pressureOf_1 : decode cX2_pressureOf 1 = .ok (.iload_n 1, 1) := by decide +kernel
theorem dX2_pressureOf_2 : decode cX2_pressureOf 2 = .ok (.invokevirtual 117, 3) := by decide +kernel
theorem dX2_pressureOf_5 : decode cX2_pressureOf 5 = .ok (.iconst 1, 1) := by decide +kernel
theorem dX2_pressureOf_6 : decode cX2_pressureOf 6 = .ok (.iadd, 1) := by decide +kernel
theorem dX2_pressureOf_7 : decode cX2_pressureOf 7 = .ok (.aload_n 0, 1) := by decide +kernel
theorem dX2_pressureOf_8 : decode cX2_pressureOf 8 = .ok (.bipush 68, 2) := by decide +kernel
theorem dX2_pressureOf_10 : decode cX2_pressureOf 10 = .ok (.iload_n 1, 1) := by decide +kernel
theorem dX2_pressureOf_11 : decode cX2_pressureOf 11 = .ok (.invokevirtual 47, 3) := by decide +kernel
theorem dX2_pressureOf_14 : decode cX2_pressureOf 14 = .ok (.imul, 1) := by decide +kernel
theorem dX2_pressureOf_15 : decode cX2_pressureOf 15 = .ok (.ireturn, 1) := by decide +kernel
theorem dX2_insultsFrom_0 : decode cX2_insultsFrom 0 = .ok (.iload_n 1, 1) := by decide +kernel
theorem dX2_insultsFrom_1 : decode cX2_insultsFrom 1 = .ok (.invokestatic 66, 3) := by decide +kernel
theorem dX2_insultsFrom_4 : decode cX2_insultsFrom 4 = .ok (.ifCond .ne 6, 3) := by decide +kernel
theorem dX2_insultsFrom_7 : decode cX2_insultsFrom 7 = .ok (.bipush (-2), 2) := by decide +kernel
theorem dX2_insultsFrom_9 : decode cX2_insultsFrom 9 = .ok (.ireturn, 1) := by decide +kernel
theorem dX2_insultsFrom_10 : decode cX2_insultsFrom 10 = .ok (.iconst 0, 1) := by decide +kernel
theorem dX2_insultsFrom_11 : decode cX2_insultsFrom 11 = .ok (.istore_n 2, 1) := by decide +kernel
theorem dX2_insultsFrom_12 : decode cX2_insultsFrom 12 = .ok (.iconst 0, 1) := by decide +kernel
theorem dX2_insultsFrom_13 : decode cX2_insultsFrom 13 = .ok (.istore_n 3, 1) := by decide +kernel
theorem dX2_insultsFrom_14 : decode cX2_insultsFrom 14 = .ok (.iload_n 3, 1) := by decide +kernel
theorem dX2_insultsFrom_15 : decode cX2_insultsFrom 15 = .ok (.aload_n 0, 1) := by decide +kernel
theorem dX2_insultsFrom_16 : decode cX2_insultsFrom 16 = .ok (.getfield 21, 3) := by decide +kernel
theorem dX2_insultsFrom_19 : decode cX2_insultsFrom 19 = .ok (.if_icmp .ge 23, 3) := by decide +kernel
theorem dX2_insultsFrom_22 : decode cX2_insultsFrom 22 = .ok (.aload_n 0, 1) := by decide +kernel
theorem dX2_insultsFrom_23 : decode cX2_insultsFrom 23 = .ok (.bipush 68, 2) := by decide +kernel
theorem dX2_insultsFrom_25 : decode cX2_insultsFrom 25 = .ok (.iload_n 3, 1) := by decide +kernel
theorem dX2_insultsFrom_26 : decode cX2_insultsFrom 26 = .ok (.invokevirtual 47, 3) := by decide +kernel
theorem dX2_insultsFrom_29 : decode cX2_insultsFrom 29 = .ok (.iload_n 1, 1) := by decide +kernel
theorem dX2_insultsFrom_30 : decode cX2_insultsFrom 30 = .ok (.if_icmp .lt 6, 3) := by decide +kernel
theorem dX2_insultsFrom_33 : decode cX2_insultsFrom 33 = .ok (.iinc 2 1, 3) := by decide +kernel
theorem dX2_insultsFrom_36 : decode cX2_insultsFrom 36 = .ok (.iinc 3 1, 3) := by decide +kernel
theorem dX2_insultsFrom_39 : decode cX2_insultsFrom 39 = .ok (.goto (-25), 3) := by decide +kernel
theorem dX2_insultsFrom_42 : decode cX2_insultsFrom 42 = .ok (.iload_n 2, 1) := by decide +kernel
theorem dX2_insultsFrom_43 : decode cX2_insultsFrom 43 = .ok (.ireturn, 1) := by decide +kernel
theorem dX2_tellNumber_0 : decode cX2_tellNumber 0 = .ok (.iload_n 1, 1) := by decide +kernel
theorem dX2_tellNumber_1 : decode cX2_tellNumber 1 = .ok (.tableswitch 146 0 12 #[67, 72, 77, 82, 87, 92, 100, 108, 113, 118, 125, 132, 139], 67) := by decide +kernel
theorem dX2_tellNumber_68 : decode cX2_tellNumber 68 = .ok (.aload_n 0, 1) := by decide +kernel
theorem dX2_tellNumber_69 : decode cX2_tellNumber 69 = .ok (.getfield 11, 3) := by decide +kernel
theorem dX2_tellNumber_72 : decode cX2_tellNumber 72 = .ok (.ireturn, 1) := by decide +kernel
theorem dX2_tellNumber_73 : decode cX2_tellNumber 73 = .ok (.aload_n 0, 1) := by decide +kernel
theorem dX2_tellNumber_74 : decode cX2_tellNumber 74 = .ok (.getfield 18, 3) := by decide +kernel
theorem dX2_tellNumber_77 : decode cX2_tellNumber 77 = .ok (.ireturn, 1) := by decide +kernel
theorem dX2_tellNumber_78 : decode cX2_tellNumber 78 = .ok (.aload_n 0, 1) := by decide +kernel
theorem dX2_tellNumber_79 : decode cX2_tellNumber 79 = .ok (.getfield 21, 3) := by decide +kernel
theorem dX2_tellNumber_82 : decode cX2_tellNumber 82 = .ok (.ireturn, 1) := by decide +kernel
theorem dX2_tellNumber_83 : decode cX2_tellNumber 83 = .ok (.aload_n 0, 1) := by decide +kernel
theorem dX2_tellNumber_84 : decode cX2_tellNumber 84 = .ok (.invokevirtual 158, 3) := by decide +kernel
theorem dX2_tellNumber_87 : decode cX2_tellNumber 87 = .ok (.ireturn, 1) := by decide +kernel
theorem dX2_tellNumber_88 : decode cX2_tellNumber 88 = .ok (.aload_n 0, 1) := by decide +kernel
theorem dX2_tellNumber_89 : decode cX2_tellNumber 89 = .ok (.invokevirtual 162, 3) := by decide +kernel
theorem dX2_tellNumber_92 : decode cX2_tellNumber 92 = .ok (.ireturn, 1) := by decide +kernel
theorem dX2_tellNumber_93 : decode cX2_tellNumber 93 = .ok (.aload_n 0, 1) := by decide +kernel
theorem dX2_tellNumber_94 : decode cX2_tellNumber 94 = .ok (.bipush 92, 2) := by decide +kernel
theorem dX2_tellNumber_96 : decode cX2_tellNumber 96 = .ok (.iconst 1, 1) := by decide +kernel
theorem dX2_tellNumber_97 : decode cX2_tellNumber 97 = .ok (.invokevirtual 98, 3) := by decide +kernel
theorem dX2_tellNumber_100 : decode cX2_tellNumber 100 = .ok (.ireturn, 1) := by decide +kernel
theorem dX2_tellNumber_101 : decode cX2_tellNumber 101 = .ok (.aload_n 0, 1) := by decide +kernel
theorem dX2_tellNumber_102 : decode cX2_tellNumber 102 = .ok (.bipush 92, 2) := by decide +kernel
theorem dX2_tellNumber_104 : decode cX2_tellNumber 104 = .ok (.iconst 2, 1) := by decide +kernel
theorem dX2_tellNumber_105 : decode cX2_tellNumber 105 = .ok (.invokevirtual 98, 3) := by decide +kernel
theorem dX2_tellNumber_108 : decode cX2_tellNumber 108 = .ok (.ireturn, 1) := by decide +kernel
theorem dX2_tellNumber_109 : decode cX2_tellNumber 109 = .ok (.aload_n 0, 1) := by decide +kernel
theorem dX2_tellNumber_110 : decode cX2_tellNumber 110 = .ok (.getfield 15, 3) := by decide +kernel
theorem dX2_tellNumber_113 : decode cX2_tellNumber 113 = .ok (.ireturn, 1) := by decide +kernel
theorem dX2_tellNumber_114 : decode cX2_tellNumber 114 = .ok (.aload_n 0, 1) := by decide +kernel
theorem dX2_tellNumber_115 : decode cX2_tellNumber 115 = .ok (.invokevirtual 165, 3) := by decide +kernel
theorem dX2_tellNumber_118 : decode cX2_tellNumber 118 = .ok (.ireturn, 1) := by decide +kernel
theorem dX2_tellNumber_119 : decode cX2_tellNumber 119 = .ok (.aload_n 0, 1) := by decide +kernel
theorem dX2_tellNumber_120 : decode cX2_tellNumber 120 = .ok (.iconst 0, 1) := by decide +kernel
theorem dX2_tellNumber_121 : decode cX2_tellNumber 121 = .ok (.iconst 0, 1) := by decide +kernel
theorem dX2_tellNumber_122 : decode cX2_tellNumber 122 = .ok (.invokevirtual 47, 3) := by decide +kernel
theorem dX2_tellNumber_125 : decode cX2_tellNumber 125 = .ok (.ireturn, 1) := by decide +kernel
theorem dX2_tellNumber_126 : decode cX2_tellNumber 126 = .ok (.aload_n 0, 1) := by decide +kernel
theorem dX2_tellNumber_127 : decode cX2_tellNumber 127 = .ok (.iconst 0, 1) := by decide +kernel
theorem dX2_tellNumber_128 : decode cX2_tellNumber 128 = .ok (.iconst 1, 1) := by decide +kernel
theorem dX2_tellNumber_129 : decode cX2_tellNumber 129 = .ok (.invokevirtual 47, 3) := by decide +kernel
theorem dX2_tellNumber_132 : decode cX2_tellNumber 132 = .ok (.ireturn, 1) := by decide +kernel
theorem dX2_tellNumber_133 : decode cX2_tellNumber 133 = .ok (.aload_n 0, 1) := by decide +kernel
theorem dX2_tellNumber_134 : decode cX2_tellNumber 134 = .ok (.iconst 0, 1) := by decide +kernel
theorem dX2_tellNumber_135 : decode cX2_tellNumber 135 = .ok (.iconst 2, 1) := by decide +kernel
theorem dX2_tellNumber_136 : decode cX2_tellNumber 136 = .ok (.invokevirtual 47, 3) := by decide +kernel
theorem dX2_tellNumber_139 : decode cX2_tellNumber 139 = .ok (.ireturn, 1) := by decide +kernel
theorem dX2_tellNumber_140 : decode cX2_tellNumber 140 = .ok (.aload_n 0, 1) := by decide +kernel
theorem dX2_tellNumber_141 : decode cX2_tellNumber 141 = .ok (.iconst 0, 1) := by decide +kernel
theorem dX2_tellNumber_142 : decode cX2_tellNumber 142 = .ok (.iconst 3, 1) := by decide +kernel
theorem dX2_tellNumber_143 : decode cX2_tellNumber 143 = .ok (.invokevirtual 47, 3) := by decide +kernel
theorem dX2_tellNumber_146 : decode cX2_tellNumber 146 = .ok (.ireturn, 1) := by decide +kernel
theorem dX2_tellNumber_147 : decode cX2_tellNumber 147 = .ok (.bipush (-2), 2) := by decide +kernel
theorem dX2_tellNumber_149 : decode cX2_tellNumber 149 = .ok (.ireturn, 1) := by decide +kernel
theorem dX2_quarrelsWith_0 : decode cX2_quarrelsWith 0 = .ok (.iconst 0, 1) := by decide +kernel
theorem dX2_quarrelsWith_1 : decode cX2_quarrelsWith 1 = .ok (.istore_n 3, 1) := by decide +kernel
theorem dX2_quarrelsWith_2 : decode cX2_quarrelsWith 2 = .ok (.iconst 0, 1) := by decide +kernel
theorem dX2_quarrelsWith_3 : decode cX2_quarrelsWith 3 = .ok (.istore 4, 2) := by decide +kernel
theorem dX2_quarrelsWith_5 : decode cX2_quarrelsWith 5 = .ok (.iload 4, 2) := by decide +kernel
theorem dX2_quarrelsWith_7 : decode cX2_quarrelsWith 7 = .ok (.aload_n 0, 1) := by decide +kernel
theorem dX2_quarrelsWith_8 : decode cX2_quarrelsWith 8 = .ok (.getfield 21, 3) := by decide +kernel
theorem dX2_quarrelsWith_11 : decode cX2_quarrelsWith 11 = .ok (.if_icmp .ge 23, 3) := by decide +kernel
theorem dX2_quarrelsWith_14 : decode cX2_quarrelsWith 14 = .ok (.aload_n 0, 1) := by decide +kernel
theorem dX2_quarrelsWith_15 : decode cX2_quarrelsWith 15 = .ok (.iload_n 1, 1) := by decide +kernel
theorem dX2_quarrelsWith_16 : decode cX2_quarrelsWith 16 = .ok (.iload 4, 2) := by decide +kernel
theorem dX2_quarrelsWith_18 : decode cX2_quarrelsWith 18 = .ok (.invokevirtual 47, 3) := by decide +kernel
theorem dX2_quarrelsWith_21 : decode cX2_quarrelsWith 21 = .ok (.iload_n 2, 1) := by decide +kernel
theorem dX2_quarrelsWith_22 : decode cX2_quarrelsWith 22 = .ok (.if_icmp .ne 6, 3) := by decide +kernel
theorem dX2_quarrelsWith_25 : decode cX2_quarrelsWith 25 = .ok (.iinc 3 1, 3) := by decide +kernel
theorem dX2_quarrelsWith_28 : decode cX2_quarrelsWith 28 = .ok (.iinc 4 1, 3) := by decide +kernel
theorem dX2_quarrelsWith_31 : decode cX2_quarrelsWith 31 = .ok (.goto (-26), 3) := by decide +kernel
theorem dX2_quarrelsWith_34 : decode cX2_quarrelsWith 34 = .ok (.iload_n 3, 1) := by decide +kernel
theorem dX2_quarrelsWith_35 : decode cX2_quarrelsWith 35 = .ok (.ireturn, 1) := by decide +kernel
theorem dX2_duelsOf_0 : decode cX2_duelsOf 0 = .ok (.iconst 0, 1) := by decide +kernel
theorem dX2_duelsOf_1 : decode cX2_duelsOf 1 = .ok (.istore_n 2, 1) := by decide +kernel
theorem dX2_duelsOf_2 : decode cX2_duelsOf 2 = .ok (.iconst 0, 1) := by decide +kernel
theorem dX2_duelsOf_3 : decode cX2_duelsOf 3 = .ok (.istore_n 3, 1) := by decide +kernel
theorem dX2_duelsOf_4 : decode cX2_duelsOf 4 = .ok (.iload_n 3, 1) := by decide +kernel
theorem dX2_duelsOf_5 : decode cX2_duelsOf 5 = .ok (.aload_n 0, 1) := by decide +kernel
theorem dX2_duelsOf_6 : decode cX2_duelsOf 6 = .ok (.getfield 21, 3) := by decide +kernel
theorem dX2_duelsOf_9 : decode cX2_duelsOf 9 = .ok (.if_icmp .ge 57, 3) := by decide +kernel
theorem dX2_duelsOf_12 : decode cX2_duelsOf 12 = .ok (.aload_n 0, 1) := by decide +kernel
theorem dX2_duelsOf_13 : decode cX2_duelsOf 13 = .ok (.bipush 44, 2) := by decide +kernel
theorem dX2_duelsOf_15 : decode cX2_duelsOf 15 = .ok (.iload_n 3, 1) := by decide +kernel
theorem dX2_duelsOf_16 : decode cX2_duelsOf 16 = .ok (.invokevirtual 47, 3) := by decide +kernel
theorem dX2_duelsOf_19 : decode cX2_duelsOf 19 = .ok (.iload_n 1, 1) := by decide +kernel
theorem dX2_duelsOf_20 : decode cX2_duelsOf 20 = .ok (.if_icmp .eq 14, 3) := by decide +kernel
theorem dX2_duelsOf_23 : decode cX2_duelsOf 23 = .ok (.aload_n 0, 1) := by decide +kernel
theorem dX2_duelsOf_24 : decode cX2_duelsOf 24 = .ok (.bipush 56, 2) := by decide +kernel
theorem dX2_duelsOf_26 : decode cX2_duelsOf 26 = .ok (.iload_n 3, 1) := by decide +kernel
theorem dX2_duelsOf_27 : decode cX2_duelsOf 27 = .ok (.invokevirtual 47, 3) := by decide +kernel
theorem dX2_duelsOf_30 : decode cX2_duelsOf 30 = .ok (.iload_n 1, 1) := by decide +kernel
theorem dX2_duelsOf_31 : decode cX2_duelsOf 31 = .ok (.if_icmp .ne 7, 3) := by decide +kernel
theorem dX2_duelsOf_34 : decode cX2_duelsOf 34 = .ok (.iconst 1, 1) := by decide +kernel
theorem dX2_duelsOf_35 : decode cX2_duelsOf 35 = .ok (.goto 4, 3) := by decide +kernel
theorem dX2_duelsOf_38 : decode cX2_duelsOf 38 = .ok (.iconst 0, 1) := by decide +kernel
theorem dX2_duelsOf_39 : decode cX2_duelsOf 39 = .ok (.istore 4, 2) := by decide +kernel
theorem dX2_duelsOf_41 : decode cX2_duelsOf 41 = .ok (.iload 4, 2) := by decide +kernel
theorem dX2_duelsOf_43 : decode cX2_duelsOf 43 = .ok (.ifCond .eq 17, 3) := by decide +kernel
theorem dX2_duelsOf_46 : decode cX2_duelsOf 46 = .ok (.aload_n 0, 1) := by decide +kernel
theorem dX2_duelsOf_47 : decode cX2_duelsOf 47 = .ok (.bipush 92, 2) := by decide +kernel
theorem dX2_duelsOf_49 : decode cX2_duelsOf 49 = .ok (.iload_n 3, 1) := by decide +kernel
theorem dX2_duelsOf_50 : decode cX2_duelsOf 50 = .ok (.invokevirtual 47, 3) := by decide +kernel
theorem dX2_duelsOf_53 : decode cX2_duelsOf 53 = .ok (.iconst 2, 1) := by decide +kernel
theorem dX2_duelsOf_54 : decode cX2_duelsOf 54 = .ok (.if_icmp .ne 6, 3) := by decide +kernel
theorem dX2_duelsOf_57 : decode cX2_duelsOf 57 = .ok (.iinc 2 1, 3) := by decide +kernel
theorem dX2_duelsOf_60 : decode cX2_duelsOf 60 = .ok (.iinc 3 1, 3) := by decide +kernel
theorem dX2_duelsOf_63 : decode cX2_duelsOf 63 = .ok (.goto (-59), 3) := by decide +kernel
theorem dX2_duelsOf_66 : decode cX2_duelsOf 66 = .ok (.iload_n 2, 1) := by decide +kernel
theorem dX2_duelsOf_67 : decode cX2_duelsOf 67 = .ok (.ireturn, 1) := by decide +kernel
theorem dX2_openQuarrels_0 : decode cX2_openQuarrels 0 = .ok (.iconst 0, 1) := by decide +kernel
theorem dX2_openQuarrels_1 : decode cX2_openQuarrels 1 = .ok (.istore_n 1, 1) := by decide +kernel
theorem dX2_openQuarrels_2 : decode cX2_openQuarrels 2 = .ok (.iconst 0, 1) := by decide +kernel
theorem dX2_openQuarrels_3 : decode cX2_openQuarrels 3 = .ok (.istore_n 2, 1) := by decide +kernel
theorem dX2_openQuarrels_4 : decode cX2_openQuarrels 4 = .ok (.iload_n 2, 1) := by decide +kernel
theorem dX2_openQuarrels_5 : decode cX2_openQuarrels 5 = .ok (.aload_n 0, 1) := by decide +kernel
theorem dX2_openQuarrels_6 : decode cX2_openQuarrels 6 = .ok (.getfield 21, 3) := by decide +kernel
theorem dX2_openQuarrels_9 : decode cX2_openQuarrels 9 = .ok (.if_icmp .ge 23, 3) := by decide +kernel
theorem dX2_openQuarrels_12 : decode cX2_openQuarrels 12 = .ok (.aload_n 0, 1) := by decide +kernel
theorem dX2_openQuarrels_13 : decode cX2_openQuarrels 13 = .ok (.iload_n 2, 1) := by decide +kernel
theorem dX2_openQuarrels_14 : decode cX2_openQuarrels 14 = .ok (.invokevirtual 69, 3) := by decide +kernel
theorem dX2_openQuarrels_17 : decode cX2_openQuarrels 17 = .ok (.ifCond .eq 9, 3) := by decide +kernel
theorem dX2_openQuarrels_20 : decode cX2_openQuarrels 20 = .ok (.iload_n 1, 1) := by decide +kernel
theorem dX2_openQuarrels_21 : decode cX2_openQuarrels 21 = .ok (.iconst 1, 1) := by decide +kernel
theorem dX2_openQuarrels_22 : decode cX2_openQuarrels 22 = .ok (.iload_n 2, 1) := by decide +kernel
theorem dX2_openQuarrels_23 : decode cX2_openQuarrels 23 = .ok (.ishl, 1) := by decide +kernel
theorem dX2_openQuarrels_24 : decode cX2_openQuarrels 24 = .ok (.ior, 1) := by decide +kernel
theorem dX2_openQuarrels_25 : decode cX2_openQuarrels 25 = .ok (.istore_n 1, 1) := by decide +kernel
theorem dX2_openQuarrels_26 : decode cX2_openQuarrels 26 = .ok (.iinc 2 1, 3) := by decide +kernel
theorem dX2_openQuarrels_29 : decode cX2_openQuarrels 29 = .ok (.goto (-25), 3) := by decide +kernel
theorem dX2_openQuarrels_32 : decode cX2_openQuarrels 32 = .ok (.iload_n 1, 1) := by decide +kernel
theorem dX2_openQuarrels_33 : decode cX2_openQuarrels 33 = .ok (.ireturn, 1) := by decide +kernel
theorem dX2_dueQuarrels_0 : decode cX2_dueQuarrels 0 = .ok (.iconst 0, 1) := by decide +kernel
theorem dX2_dueQuarrels_1 : decode cX2_dueQuarrels 1 = .ok (.istore_n 1, 1) := by decide +kernel
theorem dX2_dueQuarrels_2 : decode cX2_dueQuarrels 2 = .ok (.iconst 0, 1) := by decide +kernel
theorem dX2_dueQuarrels_3 : decode cX2_dueQuarrels 3 = .ok (.istore_n 2, 1) := by decide +kernel
theorem dX2_dueQuarrels_4 : decode cX2_dueQuarrels 4 = .ok (.iload_n 2, 1) := by decide +kernel
theorem dX2_dueQuarrels_5 : decode cX2_dueQuarrels 5 = .ok (.aload_n 0, 1) := by decide +kernel
theorem dX2_dueQuarrels_6 : decode cX2_dueQuarrels 6 = .ok (.getfield 21, 3) := by decide +kernel
theorem dX2_dueQuarrels_9 : decode cX2_dueQuarrels 9 = .ok (.if_icmp .ge 28, 3) := by decide +kernel
theorem dX2_dueQuarrels_12 : decode cX2_dueQuarrels 12 = .ok (.aload_n 0, 1) := by decide +kernel
theorem dX2_dueQuarrels_13 : decode cX2_dueQuarrels 13 = .ok (.iload_n 2, 1) := by decide +kernel
theorem dX2_dueQuarrels_14 : decode cX2_dueQuarrels 14 = .ok (.aload_n 0, 1) := by decide +kernel
theorem dX2_dueQuarrels_15 : decode cX2_dueQuarrels 15 = .ok (.iload_n 2, 1) := by decide +kernel
theorem dX2_dueQuarrels_16 : decode cX2_dueQuarrels 16 = .ok (.invokevirtual 91, 3) := by decide +kernel
theorem dX2_dueQuarrels_19 : decode cX2_dueQuarrels 19 = .ok (.invokevirtual 101, 3) := by decide +kernel
theorem dX2_dueQuarrels_22 : decode cX2_dueQuarrels 22 = .ok (.ifCond .ne 9, 3) := by decide +kernel
theorem dX2_dueQuarrels_25 : decode cX2_dueQuarrels 25 = .ok (.iload_n 1, 1) := by decide +kernel
theorem dX2_dueQuarrels_26 : decode cX2_dueQuarrels 26 = .ok (.iconst 1, 1) := by decide +kernel
theorem dX2_dueQuarrels_27 : decode cX2_dueQuarrels 27 = .ok (.iload_n 2, 1) := by decide +kernel
theorem dX2_dueQuarrels_28 : decode cX2_dueQuarrels 28 = .ok (.ishl, 1) := by decide +kernel
theorem dX2_dueQuarrels_29 : decode cX2_dueQuarrels 29 = .ok (.ior, 1) := by decide +kernel
theorem dX2_dueQuarrels_30 : decode cX2_dueQuarrels 30 = .ok (.istore_n 1, 1) := by decide +kernel
theorem dX2_dueQuarrels_31 : decode cX2_dueQuarrels 31 = .ok (.iinc 2 1, 3) := by decide +kernel
theorem dX2_dueQuarrels_34 : decode cX2_dueQuarrels 34 = .ok (.goto (-30), 3) := by decide +kernel
theorem dX2_dueQuarrels_37 : decode cX2_dueQuarrels 37 = .ok (.iload_n 1, 1) := by decide +kernel
theorem dX2_dueQuarrels_38 : decode cX2_dueQuarrels 38 = .ok (.ireturn, 1) := by decide +kernel
theorem dX2_personsUnderOath_0 : decode cX2_personsUnderOath 0 = .ok (.iconst 0, 1) := by decide +kernel
theorem dX2_personsUnderOath_1 : decode cX2_personsUnderOath 1 = .ok (.istore_n 1, 1) := by decide +kernel
theorem dX2_personsUnderOath_2 : decode cX2_personsUnderOath 2 = .ok (.iconst 0, 1) := by decide +kernel
theorem dX2_personsUnderOath_3 : decode cX2_personsUnderOath 3 = .ok (.istore_n 2, 1) := by decide +kernel
theorem dX2_personsUnderOath_4 : decode cX2_personsUnderOath 4 = .ok (.iload_n 2, 1) := by decide +kernel
theorem dX2_personsUnderOath_5 : decode cX2_personsUnderOath 5 = .ok (.aload_n 0, 1) := by decide +kernel
theorem dX2_personsUnderOath_6 : decode cX2_personsUnderOath 6 = .ok (.getfield 18, 3) := by decide +kernel
theorem dX2_personsUnderOath_9 : decode cX2_personsUnderOath 9 = .ok (.if_icmp .ge 23, 3) := by decide +kernel
theorem dX2_personsUnderOath_12 : decode cX2_personsUnderOath 12 = .ok (.aload_n 0, 1) := by decide +kernel
theorem dX2_personsUnderOath_13 : decode cX2_personsUnderOath 13 = .ok (.iload_n 2, 1) := by decide +kernel
theorem dX2_personsUnderOath_14 : decode cX2_personsUnderOath 14 = .ok (.invokevirtual 111, 3) := by decide +kernel
theorem dX2_personsUnderOath_17 : decode cX2_personsUnderOath 17 = .ok (.ifCond .le 9, 3) := by decide +kernel
theorem dX2_personsUnderOath_20 : decode cX2_personsUnderOath 20 = .ok (.iload_n 1, 1) := by decide +kernel
theorem dX2_personsUnderOath_21 : decode cX2_personsUnderOath 21 = .ok (.iconst 1, 1) := by decide +kernel
theorem dX2_personsUnderOath_22 : decode cX2_personsUnderOath 22 = .ok (.iload_n 2, 1) := by decide +kernel
theorem dX2_personsUnderOath_23 : decode cX2_personsUnderOath 23 = .ok (.ishl, 1) := by decide +kernel
theorem dX2_personsUnderOath_24 : decode cX2_personsUnderOath 24 = .ok (.ior, 1) := by decide +kernel
theorem dX2_personsUnderOath_25 : decode cX2_personsUnderOath 25 = .ok (.istore_n 1, 1) := by decide +kernel
theorem dX2_personsUnderOath_26 : decode cX2_personsUnderOath 26 = .ok (.iinc 2 1, 3) := by decide +kernel
theorem dX2_personsUnderOath_29 : decode cX2_personsUnderOath 29 = .ok (.goto (-25), 3) := by decide +kernel
theorem dX2_personsUnderOath_32 : decode cX2_personsUnderOath 32 = .ok (.iload_n 1, 1) := by decide +kernel
theorem dX2_personsUnderOath_33 : decode cX2_personsUnderOath 33 = .ok (.ireturn, 1) := by decide +kernel
theorem dX2_personsWithSecond_0 : decode cX2_personsWithSecond 0 = .ok (.iconst 0, 1) := by decide +kernel
theorem dX2_personsWithSecond_1 : decode cX2_personsWithSecond 1 = .ok (.istore_n 2, 1) := by decide +kernel
theorem dX2_personsWithSecond_2 : decode cX2_personsWithSecond 2 = .ok (.iconst 0, 1) := by decide +kernel
theorem dX2_personsWithSecond_3 : decode cX2_personsWithSecond 3 = .ok (.istore_n 3, 1) := by decide +kernel
theorem dX2_personsWithSecond_4 : decode cX2_personsWithSecond 4 = .ok (.iload_n 3, 1) := by decide +kernel
theorem dX2_personsWithSecond_5 : decode cX2_personsWithSecond 5 = .ok (.aload_n 0, 1) := by decide +kernel
theorem dX2_personsWithSecond_6 : decode cX2_personsWithSecond 6 = .ok (.getfield 18, 3) := by decide +kernel
theorem dX2_personsWithSecond_9 : decode cX2_personsWithSecond 9 = .ok (.if_icmp .ge 26, 3) := by decide +kernel
theorem dX2_personsWithSecond_12 : decode cX2_personsWithSecond 12 = .ok (.aload_n 0, 1) := by decide +kernel
theorem dX2_personsWithSecond_13 : decode cX2_personsWithSecond 13 = .ok (.bipush 24, 2) := by decide +kernel
theorem dX2_personsWithSecond_15 : decode cX2_personsWithSecond 15 = .ok (.iload_n 3, 1) := by decide +kernel
theorem dX2_personsWithSecond_16 : decode cX2_personsWithSecond 16 = .ok (.invokevirtual 47, 3) := by decide +kernel
theorem dX2_personsWithSecond_19 : decode cX2_personsWithSecond 19 = .ok (.iload_n 1, 1) := by decide +kernel
theorem dX2_personsWithSecond_20 : decode cX2_personsWithSecond 20 = .ok (.if_icmp .ne 9, 3) := by decide +kernel
theorem dX2_personsWithSecond_23 : decode cX2_personsWithSecond 23 = .ok (.iload_n 2, 1) := by decide +kernel
theorem dX2_personsWithSecond_24 : decode cX2_personsWithSecond 24 = .ok (.iconst 1, 1) := by decide +kernel
theorem dX2_personsWithSecond_25 : decode cX2_personsWithSecond 25 = .ok (.iload_n 3, 1) := by decide +kernel
theorem dX2_personsWithSecond_26 : decode cX2_personsWithSecond 26 = .ok (.ishl, 1) := by decide +kernel
theorem dX2_personsWithSecond_27 : decode cX2_personsWithSecond 27 = .ok (.ior, 1) := by decide +kernel
theorem dX2_personsWithSecond_28 : decode cX2_personsWithSecond 28 = .ok (.istore_n 2, 1) := by decide +kernel
theorem dX2_personsWithSecond_29 : decode cX2_personsWithSecond 29 = .ok (.iinc 3 1, 3) := by decide +kernel
theorem dX2_personsWithSecond_32 : decode cX2_personsWithSecond 32 = .ok (.goto (-28), 3) := by decide +kernel
theorem dX2_personsWithSecond_35 : decode cX2_personsWithSecond 35 = .ok (.iload_n 2, 1) := by decide +kernel
theorem dX2_personsWithSecond_36 : decode cX2_personsWithSecond 36 = .ok (.ireturn, 1) := by decide +kernel
theorem dX3_init_0 : decode cX3_init 0 = .ok (.aload_n 0, 1) := by decide +kernel
theorem dX3_init_1 : decode cX3_init 1 = .ok (.invokespecial 1, 3) := by decide +kernel
theorem dX3_init_4 : decode cX3_init 4 = .ok (.aload_n 0, 1) := by decide +kernel
theorem dX3_init_5 : decode cX3_init 5 = .ok (.new 7, 3) := by decide +kernel
theorem dX3_init_8 : decode cX3_init 8 = .ok (.dup, 1) := by decide +kernel
theorem dX3_init_9 : decode cX3_init 9 = .ok (.invokespecial 9, 3) := by decide +kernel
theorem dX3_init_12 : decode cX3_init 12 = .ok (.putfield 10, 3) := by decide +kernel
theorem dX3_init_15 : decode cX3_init 15 = .ok (.aload_n 0, 1) := by decide +kernel
theorem dX3_init_16 : decode cX3_init 16 = .ok (.new 16, 3) := by decide +kernel
theorem dX3_init_19 : decode cX3_init 19 = .ok (.dup, 1) := by decide +kernel
theorem dX3_init_20 : decode cX3_init 20 = .ok (.invokespecial 18, 3) := by decide +kernel
theorem dX3_init_23 : decode cX3_init 23 = .ok (.putfield 19, 3) := by decide +kernel
theorem dX3_init_26 : decode cX3_init 26 = .ok (.aload_n 0, 1) := by decide +kernel
theorem dX3_init_27 : decode cX3_init 27 = .ok (.new 23, 3) := by decide +kernel
theorem dX3_init_30 : decode cX3_init 30 = .ok (.dup, 1) := by decide +kernel
theorem dX3_init_31 : decode cX3_init 31 = .ok (.invokespecial 25, 3) := by decide +kernel
theorem dX3_init_34 : decode cX3_init 34 = .ok (.putfield 26, 3) := by decide +kernel
theorem dX3_init_37 : decode cX3_init 37 = .ok (.aload_n 0, 1) := by decide +kernel
theorem dX3_init_38 : decode cX3_init 38 = .ok (.iconst 2, 1) := by decide +kernel
theorem dX3_init_39 : decode cX3_init 39 = .ok (.anewarray 7, 3) := by decide +kernel
theorem dX3_init_42 : decode cX3_init 42 = .ok (.putfield 30, 3) := by decide +kernel
theorem dX3_init_45 : decode cX3_init 45 = .ok (.return_, 1) := by decide +kernel
theorem dX3_set_0 : decode cX3_set 0 = .ok (.aload_n 0, 1) := by decide +kernel
theorem dX3_set_1 : decode cX3_set 1 = .ok (.getfield 19, 3) := by decide +kernel
theorem dX3_set_4 : decode cX3_set 4 = .ok (.aload_n 0, 1) := by decide +kernel
theorem dX3_set_5 : decode cX3_set 5 = .ok (.getfield 10, 3) := by decide +kernel
theorem dX3_set_8 : decode cX3_set 8 = .ok (.invokevirtual 34, 3) := by decide +kernel
theorem dX3_set_11 : decode cX3_set 11 = .ok (.aload_n 0, 1) := by decide +kernel
theorem dX3_set_12 : decode cX3_set 12 = .ok (.getfield 19, 3) := by decide +kernel
theorem dX3_set_15 : decode cX3_set 15 = .ok (.aload_n 0, 1) := by decide +kernel
theorem dX3_set_16 : decode cX3_set 16 = .ok (.getfield 10, 3) := by decide +kernel
theorem dX3_set_19 : decode cX3_set 19 = .ok (.iload_n 1, 1) := by decide +kernel
theorem dX3_set_20 : decode cX3_set 20 = .ok (.iload_n 2, 1) := by decide +kernel
theorem dX3_set_21 : decode cX3_set 21 = .ok (.invokevirtual 38, 3) := by decide +kernel
theorem dX3_set_24 : decode cX3_set 24 = .ok (.invokevirtual 42, 3) := by decide +kernel
theorem dX3_set_27 : decode cX3_set 27 = .ok (.ireturn, 1) := by decide +kernel
theorem dX3_person_0 : decode cX3_person 0 = .ok (.aload_n 0, 1) := by decide +kernel
theorem dX3_person_1 : decode cX3_person 1 = .ok (.getfield 19, 3) := by decide +kernel
theorem dX3_person_4 : decode cX3_person 4 = .ok (.aload_n 0, 1) := by decide +kernel
theorem dX3_person_5 : decode cX3_person 5 = .ok (.getfield 10, 3) := by decide +kernel
theorem dX3_person_8 : decode cX3_person 8 = .ok (.invokevirtual 34, 3) := by decide +kernel
theorem dX3_person_11 : decode cX3_person 11 = .ok (.aload_n 0, 1) := by decide +kernel
theorem dX3_person_12 : decode cX3_person 12 = .ok (.getfield 19, 3) := by decide +kernel
theorem dX3_person_15 : decode cX3_person 15 = .ok (.aload_n 0, 1) := by decide +kernel
theorem dX3_person_16 : decode cX3_person 16 = .ok (.getfield 10, 3) := by decide +kernel
theorem dX3_person_19 : decode cX3_person 19 = .ok (.iload_n 1, 1) := by decide +kernel
theorem dX3_person_20 : decode cX3_person 20 = .ok (.iload_n 2, 1) := by decide +kernel
theorem dX3_person_21 : decode cX3_person 21 = .ok (.invokevirtual 46, 3) := by decide +kernel
theorem dX3_person_24 : decode cX3_person 24 = .ok (.invokevirtual 42, 3) := by decide +kernel
theorem dX3_person_27 : decode cX3_person 27 = .ok (.ireturn, 1) := by decide +kernel
theorem dX3_second_0 : decode cX3_second 0 = .ok (.aload_n 0, 1) := by decide +kernel
theorem dX3_second_1 : decode cX3_second 1 = .ok (.getfield 19, 3) := by decide +kernel
theorem dX3_second_4 : decode cX3_second 4 = .ok (.aload_n 0, 1) := by decide +kernel
theorem dX3_second_5 : decode cX3_second 5 = .ok (.getfield 10, 3) := by decide +kernel
theorem dX3_second_8 : decode cX3_second 8 = .ok (.invokevirtual 34, 3) := by decide +kernel
theorem dX3_second_11 : decode cX3_second 11 = .ok (.aload_n 0, 1) := by decide +kernel
theorem dX3_second_12 : decode cX3_second 12 = .ok (.getfield 19, 3) := by decide +kernel
theorem dX3_second_15 : decode cX3_second 15 = .ok (.aload_n 0, 1) := by decide +kernel
theorem dX3_second_16 : decode cX3_second 16 = .ok (.getfield 10, 3) := by decide +kernel
theorem dX3_second_19 : decode cX3_second 19 = .ok (.iload_n 1, 1) := by decide +kernel
theorem dX3_second_20 : decode cX3_second 20 = .ok (.iload_n 2, 1) := by decide +kernel
theorem dX3_second_21 : decode cX3_second 21 = .ok (.invokevirtual 49, 3) := by decide +kernel
theorem dX3_second_24 : decode cX3_second 24 = .ok (.invokevirtual 42, 3) := by decide +kernel
theorem dX3_second_27 : decode cX3_second 27 = .ok (.ireturn, 1) := by decide +kernel
theorem dX3_allow_0 : decode cX3_allow 0 = .ok (.aload_n 0, 1) := by decide +kernel
theorem dX3_allow_1 : decode cX3_allow 1 = .ok (.getfield 19, 3) := by decide +kernel
theorem dX3_allow_4 : decode cX3_allow 4 = .ok (.aload_n 0, 1) := by decide +kernel
theorem dX3_allow_5 : decode cX3_allow 5 = .ok (.getfield 10, 3) := by decide +kernel
theorem dX3_allow_8 : decode cX3_allow 8 = .ok (.invokevirtual 34, 3) := by decide +kernel
theorem dX3_allow_11 : decode cX3_allow 11 = .ok (.aload_n 0, 1) := by decide +kernel
theorem dX3_allow_12 : decode cX3_allow 12 = .ok (.getfield 19, 3) := by decide +kernel
theorem dX3_allow_15 : decode cX3_allow 15 = .ok (.aload_n 0, 1) := by decide +kernel
theorem dX3_allow_16 : decode cX3_allow 16 = .ok (.getfield 10, 3) := by decide +kernel
theorem dX3_allow_19 : decode cX3_allow 19 = .ok (.iload_n 1, 1) := by decide +kernel
theorem dX3_allow_20 : decode cX3_allow 20 = .ok (.invokevirtual 52, 3) := by decide +kernel
theorem dX3_allow_23 : decode cX3_allow 23 = .ok (.invokevirtual 42, 3) := by decide +kernel
theorem dX3_allow_26 : decode cX3_allow 26 = .ok (.ireturn, 1) := by decide +kernel
theorem dX3_insult_0 : decode cX3_insult 0 = .ok (.aload_n 0, 1) := by decide +kernel
theorem dX3_insult_1 : decode cX3_insult 1 = .ok (.getfield 19, 3) := by decide +kernel
theorem dX3_insult_4 : decode cX3_insult 4 = .ok (.aload_n 0, 1) := by decide +kernel
theorem dX3_insult_5 : decode cX3_insult 5 = .ok (.getfield 10, 3) := by decide +kernel
theorem dX3_insult_8 : decode cX3_insult 8 = .ok (.invokevirtual 34, 3) := by decide +kernel
theorem dX3_insult_11 : decode cX3_insult 11 = .ok (.aload_n 0, 1) := by decide +kernel
theorem dX3_insult_12 : decode cX3_insult 12 = .ok (.getfield 19, 3) := by decide +kernel
theorem dX3_insult_15 : decode cX3_insult 15 = .ok (.aload_n 0, 1) := by decide +kernel
theorem dX3_insult_16 : decode cX3_insult 16 = .ok (.getfield 10, 3) := by decide +kernel
theorem dX3_insult_19 : decode cX3_insult 19 = .ok (.iload_n 1, 1) := by decide +kernel
theorem dX3_insult_20 : decode cX3_insult 20 = .ok (.iload_n 2, 1) := by decide +kernel
theorem dX3_insult_21 : decode cX3_insult 21 = .ok (.iload_n 3, 1) := by decide +kernel
theorem dX3_insult_22 : decode cX3_insult 22 = .ok (.invokevirtual 55, 3) := by decide +kernel
theorem dX3_insult_25 : decode cX3_insult 25 = .ok (.invokevirtual 42, 3) := by decide +kernel
theorem dX3_insult_28 : decode cX3_insult 28 = .ok (.ireturn, 1) := by decide +kernel
theorem dX3_settle_0 : decode cX3_settle 0 = .ok (.aload_n 0, 1) := by decide +kernel
theorem dX3_settle_1 : decode cX3_settle 1 = .ok (.getfield 19, 3) := by decide +kernel
theorem dX3_settle_4 : decode cX3_settle 4 = .ok (.aload_n 0, 1) := by decide +kernel
theorem dX3_settle_5 : decode cX3_settle 5 = .ok (.getfield 10, 3) := by decide +kernel
theorem dX3_settle_8 : decode cX3_settle 8 = .ok (.invokevirtual 34, 3) := by decide +kernel
theorem dX3_settle_11 : decode cX3_settle 11 = .ok (.aload_n 0, 1) := by decide +kernel
theorem dX3_settle_12 : decode cX3_settle 12 = .ok (.getfield 19, 3) := by decide +kernel
theorem dX3_settle_15 : decode cX3_settle 15 = .ok (.aload_n 0, 1) := by decide +kernel
theorem dX3_settle_16 : decode cX3_settle 16 = .ok (.getfield 10, 3) := by decide +kernel
theorem dX3_settle_19 : decode cX3_settle 19 = .ok (.iload_n 1, 1) := by decide +kernel
theorem dX3_settle_20 : decode cX3_settle 20 = .ok (.iload_n 2, 1) := by decide +kernel
theorem dX3_settle_21 : decode cX3_settle 21 = .ok (.invokevirtual 59, 3) := by decide +kernel
theorem dX3_settle_24 : decode cX3_settle 24 = .ok (.invokevirtual 42, 3) := by decide +kernel
theorem dX3_settle_27 : decode cX3_settle 27 = .ok (.ireturn, 1) := by decide +kernel
theorem dX3_fight_0 : decode cX3_fight 0 = .ok (.aload_n 0, 1) := by decide +kernel
theorem dX3_fight_1 : decode cX3_fight 1 = .ok (.getfield 19, 3) := by decide +kernel
theorem dX3_fight_4 : decode cX3_fight 4 = .ok (.aload_n 0, 1) := by decide +kernel
theorem dX3_fight_5 : decode cX3_fight 5 = .ok (.getfield 10, 3) := by decide +kernel
theorem dX3_fight_8 : decode cX3_fight 8 = .ok (.invokevirtual 34, 3) := by decide +kernel
theorem dX3_fight_11 : decode cX3_fight 11 = .ok (.aload_n 0, 1) := by decide +kernel
theorem dX3_fight_12 : decode cX3_fight 12 = .ok (.getfield 19, 3) := by decide +kernel
theorem dX3_fight_15 : decode cX3_fight 15 = .ok (.aload_n 0, 1) := by decide +kernel
theorem dX3_fight_16 : decode cX3_fight 16 = .ok (.getfield 10, 3) := by decide +kernel
theorem dX3_fight_19 : decode cX3_fight 19 = .ok (.iload_n 1, 1) := by decide +kernel
theorem dX3_fight_20 : decode cX3_fight 20 = .ok (.invokevirtual 62, 3) := by decide +kernel
theorem dX3_fight_23 : decode cX3_fight 23 = .ok (.invokevirtual 42, 3) := by decide +kernel
theorem dX3_fight_26 : decode cX3_fight 26 = .ok (.ireturn, 1) := by decide +kernel
theorem dX3_swear_0 : decode cX3_swear 0 = .ok (.aload_n 0, 1) := by decide +kernel
theorem dX3_swear_1 : decode cX3_swear 1 = .ok (.getfield 19, 3) := by decide +kernel
theorem dX3_swear_4 : decode cX3_swear 4 = .ok (.aload_n 0, 1) := by decide +kernel
theorem dX3_swear_5 : decode cX3_swear 5 = .ok (.getfield 10, 3) := by decide +kernel
theorem dX3_swear_8 : decode cX3_swear 8 = .ok (.invokevirtual 34, 3) := by decide +kernel
theorem dX3_swear_11 : decode cX3_swear 11 = .ok (.aload_n 0, 1) := by decide +kernel
theorem dX3_swear_12 : decode cX3_swear 12 = .ok (.getfield 19, 3) := by decide +kernel
theorem dX3_swear_15 : decode cX3_swear 15 = .ok (.aload_n 0, 1) := by decide +kernel
theorem dX3_swear_16 : decode cX3_swear 16 = .ok (.getfield 10, 3) := by decide +kernel
theorem dX3_swear_19 : decode cX3_swear 19 = .ok (.iload_n 1, 1) := by decide +kernel
theorem dX3_swear_20 : decode cX3_swear 20 = .ok (.invokevirtual 65, 3) := by decide +kernel
theorem dX3_swear_23 : decode cX3_swear 23 = .ok (.invokevirtual 42, 3) := by decide +kernel
theorem dX3_swear_26 : decode cX3_swear 26 = .ok (.ireturn, 1) := by decide +kernel
theorem dX3_pass_0 : decode cX3_pass 0 = .ok (.aload_n 0, 1) := by decide +kernel
theorem dX3_pass_1 : decode cX3_pass 1 = .ok (.getfield 19, 3) := by decide +kernel
theorem dX3_pass_4 : decode cX3_pass 4 = .ok (.aload_n 0, 1) := by decide +kernel
theorem dX3_pass_5 : decode cX3_pass 5 = .ok (.getfield 10, 3) := by decide +kernel
theorem dX3_pass_8 : decode cX3_pass 8 = .ok (.invokevirtual 34, 3) := by decide +kernel
theorem dX3_pass_11 : decode cX3_pass 11 = .ok (.aload_n 0, 1) := by decide +kernel
theorem dX3_pass_12 : decode cX3_pass 12 = .ok (.getfield 19, 3) := by decide +kernel
theorem dX3_pass_15 : decode cX3_pass 15 = .ok (.aload_n 0, 1) := by decide +kernel
theorem dX3_pass_16 : decode cX3_pass 16 = .ok (.getfield 10, 3) := by decide +kernel
theorem dX3_pass_19 : decode cX3_pass 19 = .ok (.iload_n 1, 1) := by decide +kernel
theorem dX3_pass_20 : decode cX3_pass 20 = .ok (.invokevirtual 68, 3) := by decide +kernel
theorem dX3_pass_23 : decode cX3_pass 23 = .ok (.invokevirtual 42, 3) := by decide +kernel
theorem dX3_pass_26 : decode cX3_pass 26 = .ok (.istore_n 2, 1) := by decide +kernel
theorem dX3_pass_27 : decode cX3_pass 27 = .ok (.iload_n 2, 1) := by decide +kernel
theorem dX3_pass_28 : decode cX3_pass 28 = .ok (.invokestatic 71, 3) := by decide +kernel
theorem dX3_pass_31 : decode cX3_pass 31 = .ok (.ifCond .eq 7, 3) := by decide +kernel
theorem dX3_pass_34 : decode cX3_pass 34 = .ok (.iload_n 2, 1) := by decide +kernel
theorem dX3_pass_35 : decode cX3_pass 35 = .ok (.goto 13, 3) := by decide +kernel
theorem dX3_pass_38 : decode cX3_pass 38 = .ok (.aload_n 0, 1) := by decide +kernel
theorem dX3_pass_39 : decode cX3_pass 39 = .ok (.getfield 10, 3) := by decide +kernel
theorem dX3_pass_42 : decode cX3_pass 42 = .ok (.invokevirtual 75, 3) := by decide +kernel
theorem dX3_pass_45 : decode cX3_pass 45 = .ok (.invokestatic 79, 3) := by decide +kernel
theorem dX3_pass_48 : decode cX3_pass 48 = .ok (.ireturn, 1) := by decide +kernel
theorem dX3_of_0 : decode cX3_of 0 = .ok (.aload_n 0, 1) := by decide +kernel
theorem dX3_of_1 : decode cX3_of 1 = .ok (.getfield 10, 3) := by decide +kernel
theorem dX3_of_4 : decode cX3_of 4 = .ok (.iload_n 1, 1) := by decide +kernel
theorem dX3_of_5 : decode cX3_of 5 = .ok (.iload_n 2, 1) := by decide +kernel
theorem dX3_of_6 : decode cX3_of 6 = .ok (.invokevirtual 84, 3) := by decide +kernel
theorem dX3_of_9 : decode cX3_of 9 = .ok (.ireturn, 1) := by decide +kernel
theorem dX3_quarrel_0 : decode cX3_quarrel 0 = .ok (.aload_n 0, 1) := by decide +kernel
theorem dX3_quarrel_1 : decode cX3_quarrel 1 = .ok (.getfield 10, 3) := by decide +kernel
theorem dX3_quarrel_4 : decode cX3_quarrel 4 = .ok (.iload_n 1, 1) := by decide +kernel
theorem dX3_quarrel_5 : decode cX3_quarrel 5 = .ok (.iload_n 2, 1) := by decide +kernel
theorem dX3_quarrel_6 : decode cX3_quarrel 6 = .ok (.invokevirtual 87, 3) := by decide +kernel
theorem dX3_quarrel_9 : decode cX3_quarrel 9 = .ok (.ireturn, 1) := by decide +kernel
theorem dX3_record_0 : decode cX3_record 0 = .ok (.aload_n 0, 1) := by decide +kernel
theorem dX3_record_1 : decode cX3_record 1 = .ok (.getfield 10, 3) := by decide +kernel
theorem dX3_record_4 : decode cX3_record 4 = .ok (.iload_n 1, 1) := by decide +kernel
theorem dX3_record_5 : decode cX3_record 5 = .ok (.iload_n 2, 1) := by decide +kernel
theorem dX3_record_6 : decode cX3_record 6 = .ok (.invokevirtual 90, 3) := by decide +kernel
theorem dX3_record_9 : decode cX3_record 9 = .ok (.ireturn, 1) := by decide +kernel
theorem dX3_pressing_0 : decode cX3_pressing 0 = .ok (.aload_n 0, 1) := by decide +kernel
theorem dX3_pressing_1 : decode cX3_pressing 1 = .ok (.getfield 10, 3) := by decide +kernel
theorem dX3_pressing_4 : decode cX3_pressing 4 = .ok (.iload_n 1, 1) := by decide +kernel
theorem dX3_pressing_5 : decode cX3_pressing 5 = .ok (.invokevirtual 93, 3) := by decide +kernel
theorem dX3_pressing_8 : decode cX3_pressing 8 = .ok (.ireturn, 1) := by decide +kernel
theorem dX3_insults_0 : decode cX3_insults 0 = .ok (.aload_n 0, 1) := by decide +kernel
theorem dX3_insults_1 : decode cX3_insults 1 = .ok (.getfield 10, 3) := by decide +kernel
theorem dX3_insults_4 : decode cX3_insults 4 = .ok (.iload_n 1, 1) := by decide +kernel
theorem dX3_insults_5 : decode cX3_insults 5 = .ok (.invokevirtual 96, 3) := by decide +kernel
theorem dX3_insults_8 : decode cX3_insults 8 = .ok (.ireturn, 1) := by decide +kernel
theorem dX3_count_0 : decode cX3_count 0 = .ok (.iload_n 1, 1) := by decide +kernel
theorem dX3_count_1 : decode cX3_count 1 = .ok (.bipush 13, 2) := by decide +kernel
theorem dX3_count_3 : decode cX3_count 3 = .ok (.if_icmp .ne 11, 3) := by decide +kernel
theorem dX3_count_6 : decode cX3_count 6 = .ok (.aload_n 0, 1) := by decide +kernel
theorem dX3_count_7 : decode cX3_count 7 = .ok (.getfield 26, 3) := by decide +kernel
theorem dX3_count_10 : decode cX3_count 10 = .ok (.getfield 99, 3) := by decide +kernel
theorem dX3_count_13 : decode cX3_count 13 = .ok (.ireturn, 1) := by decide +kernel
theorem dX3_count_14 : decode cX3_count 14 = .ok (.iload_n 1, 1) := by decide +kernel
theorem dX3_count_15 : decode cX3_count 15 = .ok (.bipush 14, 2) := by decide +kernel
theorem dX3_count_17 : decode cX3_count 17 = .ok (.if_icmp .ne 11, 3) := by decide +kernel
theorem dX3_count_20 : decode cX3_count 20 = .ok (.aload_n 0, 1) := by decide +kernel
theorem dX3_count_21 : decode cX3_count 21 = .ok (.getfield 19, 3) := by decide +kernel
theorem dX3_count_24 : decode cX3_count 24 = .ok (.getfield 103, 3) := by decide +kernel
theorem dX3_count_27 : decode cX3_count 27 = .ok (.ireturn, 1) := by decide +kernel
theorem dX3_count_28 : decode cX3_count 28 = .ok (.aload_n 0, 1) := by decide +kernel
theorem dX3_count_29 : decode cX3_count 29 = .ok (.getfield 10, 3) := by decide +kernel
theorem dX3_count_32 : decode cX3_count 32 = .ok (.iload_n 1, 1) := by decide +kernel
theorem dX3_count_33 : decode cX3_count 33 = .ok (.invokevirtual 106, 3) := by decide +kernel
theorem dX3_count_36 : decode cX3_count 36 = .ok (.ireturn, 1) := by decide +kernel
theorem dX3_why_0 : decode cX3_why 0 = .ok (.aload_n 0, 1) := by decide +kernel
theorem dX3_why_1 : decode cX3_why 1 = .ok (.getfield 10, 3) := by decide +kernel
theorem dX3_why_4 : decode cX3_why 4 = .ok (.iload_n 1, 1) := by decide +kernel
theorem dX3_why_5 : decode cX3_why 5 = .ok (.invokevirtual 109, 3) := by decide +kernel
theorem dX3_why_8 : decode cX3_why 8 = .ok (.ifCond .eq 22, 3) := by decide +kernel
theorem dX3_why_11 : decode cX3_why 11 = .ok (.aload_n 0, 1) := by decide +kernel
theorem dX3_why_12 : decode cX3_why 12 = .ok (.getfield 10, 3) := by decide +kernel
theorem dX3_why_15 : decode cX3_why 15 = .ok (.iload_n 1, 1) := by decide +kernel
theorem dX3_why_16 : decode cX3_why 16 = .ok (.aload_n 0, 1) := by decide +kernel
theorem dX3_why_17 : decode cX3_why 17 = .ok (.getfield 10, 3) := by decide +kernel
theorem dX3_why_20 : decode cX3_why 20 = .ok (.iload_n 1, 1) := by decide +kernel
theorem dX3_why_21 : decode cX3_why 21 = .ok (.invokevirtual 112, 3) := by decide +kernel
theorem dX3_why_24 : decode cX3_why 24 = .ok (.invokevirtual 115, 3) := by decide +kernel
theorem dX3_why_27 : decode cX3_why 27 = .ok (.goto 4, 3) := by decide +kernel
theorem dX3_why_30 : decode cX3_why 30 = .ok (.iconst (-1), 1) := by decide +kernel
theorem dX3_why_31 : decode cX3_why 31 = .ok (.ireturn, 1) := by decide +kernel
theorem dX3_firstWay_0 : decode cX3_firstWay 0 = .ok (.aload_n 0, 1) := by decide +kernel
theorem dX3_firstWay_1 : decode cX3_firstWay 1 = .ok (.getfield 10, 3) := by decide +kernel
theorem dX3_firstWay_4 : decode cX3_firstWay 4 = .ok (.iload_n 1, 1) := by decide +kernel
theorem dX3_firstWay_5 : decode cX3_firstWay 5 = .ok (.invokevirtual 109, 3) := by decide +kernel
theorem dX3_firstWay_8 : decode cX3_firstWay 8 = .ok (.ifCond .eq 17, 3) := by decide +kernel
theorem dX3_firstWay_11 : decode cX3_firstWay 11 = .ok (.aload_n 0, 1) := by decide +kernel
theorem dX3_firstWay_12 : decode cX3_firstWay 12 = .ok (.getfield 10, 3) := by decide +kernel
theorem dX3_firstWay_15 : decode cX3_firstWay 15 = .ok (.iload_n 1, 1) := by decide +kernel
theorem dX3_firstWay_16 : decode cX3_firstWay 16 = .ok (.invokevirtual 112, 3) := by decide +kernel
theorem dX3_firstWay_19 : decode cX3_firstWay 19 = .ok (.invokestatic 118, 3) := by decide +kernel
theorem dX3_firstWay_22 : decode cX3_firstWay 22 = .ok (.goto 4, 3) := by decide +kernel
theorem dX3_firstWay_25 : decode cX3_firstWay 25 = .ok (.iconst (-1), 1) := by decide +kernel
theorem dX3_firstWay_26 : decode cX3_firstWay 26 = .ok (.ireturn, 1) := by decide +kernel
theorem dX3_opensIn_0 : decode cX3_opensIn 0 = .ok (.aload_n 0, 1) := by decide +kernel
theorem dX3_opensIn_1 : decode cX3_opensIn 1 = .ok (.getfield 10, 3) := by decide +kernel
theorem dX3_opensIn_4 : decode cX3_opensIn 4 = .ok (.iload_n 1, 1) := by decide +kernel
theorem dX3_opensIn_5 : decode cX3_opensIn 5 = .ok (.invokevirtual 109, 3) := by decide +kernel
theorem dX3_opensIn_8 : decode cX3_opensIn 8 = .ok (.ifCond .ne 5, 3) := by decide +kernel
theorem dX3_opensIn_11 : decode cX3_opensIn 11 = .ok (.iconst (-1), 1) := by decide +kernel
theorem dX3_opensIn_12 : decode cX3_opensIn 12 = .ok (.ireturn, 1) := by decide +kernel
theorem dX3_opensIn_13 : decode cX3_opensIn 13 = .ok (.aload_n 0, 1) := by decide +kernel
theorem dX3_opensIn_14 : decode cX3_opensIn 14 = .ok (.getfield 10, 3) := by decide +kernel
theorem dX3_opensIn_17 : decode cX3_opensIn 17 = .ok (.iload_n 1, 1) := by decide +kernel
theorem dX3_opensIn_18 : decode cX3_opensIn 18 = .ok (.invokevirtual 121, 3) := by decide +kernel
theorem dX3_opensIn_21 : decode cX3_opensIn 21 = .ok (.ifCond .eq 14, 3) := by decide +kernel
theorem dX3_opensIn_24 : decode cX3_opensIn 24 = .ok (.aload_n 0, 1) := by decide +kernel
theorem dX3_opensIn_25 : decode cX3_opensIn 25 = .ok (.getfield 10, 3) := by decide +kernel
theorem dX3_opensIn_28 : decode cX3_opensIn 28 = .ok (.iload_n 1, 1) := by decide +kernel
theorem dX3_opensIn_29 : decode cX3_opensIn 29 = .ok (.invokevirtual 124, 3) := by decide +kernel
theorem dX3_opensIn_32 : decode cX3_opensIn 32 = .ok (.goto 5, 3) := by decide +kernel
theorem dX3_opensIn_35 : decode cX3_opensIn 35 = .ok (.bipush (-5), 2) := by decide +kernel
theorem dX3_opensIn_37 : decode cX3_opensIn 37 = .ok (.ireturn, 1) := by decide +kernel
theorem dX3_dueIn_0 : decode cX3_dueIn 0 = .ok (.aload_n 0, 1) := by decide +kernel
theorem dX3_dueIn_1 : decode cX3_dueIn 1 = .ok (.getfield 10, 3) := by decide +kernel
theorem dX3_dueIn_4 : decode cX3_dueIn 4 = .ok (.iload_n 1, 1) := by decide +kernel
theorem dX3_dueIn_5 : decode cX3_dueIn 5 = .ok (.invokevirtual 109, 3) := by decide +kernel
theorem dX3_dueIn_8 : decode cX3_dueIn 8 = .ok (.ifCond .ne 5, 3) := by decide +kernel
theorem dX3_dueIn_11 : decode cX3_dueIn 11 = .ok (.iconst (-1), 1) := by decide +kernel
theorem dX3_dueIn_12 : decode cX3_dueIn 12 = .ok (.ireturn, 1) := by decide +kernel
theorem dX3_dueIn_13 : decode cX3_dueIn 13 = .ok (.aload_n 0, 1) := by decide +kernel
theorem dX3_dueIn_14 : decode cX3_dueIn 14 = .ok (.getfield 10, 3) := by decide +kernel
theorem dX3_dueIn_17 : decode cX3_dueIn 17 = .ok (.iload_n 1, 1) := by decide +kernel
theorem dX3_dueIn_18 : decode cX3_dueIn 18 = .ok (.invokevirtual 121, 3) := by decide +kernel
theorem dX3_dueIn_21 : decode cX3_dueIn 21 = .ok (.ifCond .eq 14, 3) := by decide +kernel
theorem dX3_dueIn_24 : decode cX3_dueIn 24 = .ok (.aload_n 0, 1) := by decide +kernel
theorem dX3_dueIn_25 : decode cX3_dueIn 25 = .ok (.getfield 10, 3) := by decide +kernel
theorem dX3_dueIn_28 : decode cX3_dueIn 28 = .ok (.iload_n 1, 1) := by decide +kernel
theorem dX3_dueIn_29 : decode cX3_dueIn 29 = .ok (.invokevirtual 127, 3) := by decide +kernel
theorem dX3_dueIn_32 : decode cX3_dueIn 32 = .ok (.goto 5, 3) := by decide +kernel
theorem dX3_dueIn_35 : decode cX3_dueIn 35 = .ok (.bipush (-5), 2) := by decide +kernel
theorem dX3_dueIn_37 : decode cX3_dueIn 37 = .ok (.ireturn, 1) := by decide +kernel
theorem dX3_ifInsulted_0 : decode cX3_ifInsulted 0 = .ok (.aload_n 0, 1) := by decide +kernel
theorem dX3_ifInsulted_1 : decode cX3_ifInsulted 1 = .ok (.getfield 10, 3) := by decide +kernel
theorem dX3_ifInsulted_4 : decode cX3_ifInsulted 4 = .ok (.iload_n 1, 1) := by decide +kernel
theorem dX3_ifInsulted_5 : decode cX3_ifInsulted 5 = .ok (.iload_n 2, 1) := by decide +kernel
theorem dX3_ifInsulted_6 : decode cX3_ifInsulted 6 = .ok (.iload_n 3, 1) := by decide +kernel
theorem dX3_ifInsulted_7 : decode cX3_ifInsulted 7 = .ok (.invokevirtual 130, 3) := by decide +kernel
theorem dX3_ifInsulted_10 : decode cX3_ifInsulted 10 = .ok (.istore 4, 2) := by decide +kernel
theorem dX3_ifInsulted_12 : decode cX3_ifInsulted 12 = .ok (.iload 4, 2) := by decide +kernel
theorem dX3_ifInsulted_14 : decode cX3_ifInsulted 14 = .ok (.ifCond .eq 8, 3) := by decide +kernel
theorem dX3_ifInsulted_17 : decode cX3_ifInsulted 17 = .ok (.iload 4, 2) := by decide +kernel
theorem dX3_ifInsulted_19 : decode cX3_ifInsulted 19 = .ok (.goto 14, 3) := by decide +kernel
theorem dX3_ifInsulted_22 : decode cX3_ifInsulted 22 = .ok (.aload_n 0, 1) := by decide +kernel
theorem dX3_ifInsulted_23 : decode cX3_ifInsulted 23 = .ok (.getfield 10, 3) := by decide +kernel
theorem dX3_ifInsulted_26 : decode cX3_ifInsulted 26 = .ok (.iload_n 1, 1) := by decide +kernel
theorem dX3_ifInsulted_27 : decode cX3_ifInsulted 27 = .ok (.iload_n 2, 1) := by decide +kernel
theorem dX3_ifInsulted_28 : decode cX3_ifInsulted 28 = .ok (.iload_n 3, 1) := by decide +kernel
theorem dX3_ifInsulted_29 : decode cX3_ifInsulted 29 = .ok (.iconst 0, 1) := by decide +kernel
theorem dX3_ifInsulted_30 : decode cX3_ifInsulted 30 = .ok (.invokevirtual 133, 3) := by decide +kernel
theorem dX3_ifInsulted_33 : decode cX3_ifInsulted 33 = .ok (.ireturn, 1) := by decide +kernel
theorem dX3_ifFought_0 : decode cX3_ifFought 0 = .ok (.aload_n 0, 1) := by decide +kernel
theorem dX3_ifFought_1 : decode cX3_ifFought 1 = .ok (.getfield 10, 3) := by decide +kernel
theorem dX3_ifFought_4 : decode cX3_ifFought 4 = .ok (.iload_n 1, 1) := by decide +kernel
theorem dX3_ifFought_5 : decode cX3_ifFought 5 = .ok (.invokevirtual 109, 3) := by decide +kernel
theorem dX3_ifFought_8 : decode cX3_ifFought 8 = .ok (.ifCond .eq 14, 3) := by decide +kernel
theorem dX3_ifFought_11 : decode cX3_ifFought 11 = .ok (.aload_n 0, 1) := by decide +kernel
theorem dX3_ifFought_12 : decode cX3_ifFought 12 = .ok (.getfield 10, 3) := by decide +kernel
theorem dX3_ifFought_15 : decode cX3_ifFought 15 = .ok (.iload_n 1, 1) := by decide +kernel
theorem dX3_ifFought_16 : decode cX3_ifFought 16 = .ok (.invokevirtual 137, 3) := by decide +kernel
theorem dX3_ifFought_19 : decode cX3_ifFought 19 = .ok (.goto 4, 3) := by decide +kernel
theorem dX3_ifFought_22 : decode cX3_ifFought 22 = .ok (.iconst (-1), 1) := by decide +kernel
theorem dX3_ifFought_23 : decode cX3_ifFought 23 = .ok (.ireturn, 1) := by decide +kernel
theorem dX3_undo_0 : decode cX3_undo 0 = .ok (.aload_n 0, 1) := by decide +kernel
theorem dX3_undo_1 : decode cX3_undo 1 = .ok (.getfield 19, 3) := by decide +kernel
theorem dX3_undo_4 : decode cX3_undo 4 = .ok (.aload_n 0, 1) := by decide +kernel
theorem dX3_undo_5 : decode cX3_undo 5 = .ok (.getfield 10, 3) := by decide +kernel
theorem dX3_undo_8 : decode cX3_undo 8 = .ok (.invokevirtual 164, 3) := by decide +kernel
theorem dX3_undo_11 : decode cX3_undo 11 = .ok (.ifCond .eq 13, 3) := by decide +kernel
theorem dX3_undo_14 : decode cX3_undo 14 = .ok (.aload_n 0, 1) := by decide +kernel
theorem dX3_undo_15 : decode cX3_undo 15 = .ok (.getfield 19, 3) := by decide +kernel
theorem dX3_undo_18 : decode cX3_undo 18 = .ok (.getfield 103, 3) := by decide +kernel
theorem dX3_undo_21 : decode cX3_undo 21 = .ok (.goto 5, 3) := by decide +kernel
theorem dX3_undo_24 : decode cX3_undo 24 = .ok (.bipush (-5), 2) := by decide +kernel
theorem dX3_undo_26 : decode cX3_undo 26 = .ok (.ireturn, 1) := by decide +kernel
theorem dX3_isError_0 : decode cX3_isError 0 = .ok (.iload_n 0, 1) := by decide +kernel
theorem dX3_isError_1 : decode cX3_isError 1 = .ok (.ifCond .ge 13, 3) := by decide +kernel
theorem dX3_isError_4 : decode cX3_isError 4 = .ok (.iload_n 0, 1) := by decide +kernel
theorem dX3_isError_5 : decode cX3_isError 5 = .ok (.bipush (-6), 2) := by decide +kernel
theorem dX3_isError_7 : decode cX3_isError 7 = .ok (.if_icmp .eq 7, 3) := by decide +kernel
theorem dX3_isError_10 : decode cX3_isError 10 = .ok (.iconst 1, 1) := by decide +kernel
theorem dX3_isError_11 : decode cX3_isError 11 = .ok (.goto 4, 3) := by decide +kernel
theorem dX3_isError_14 : decode cX3_isError 14 = .ok (.iconst 0, 1) := by decide +kernel
theorem dX3_isError_15 : decode cX3_isError 15 = .ok (.ireturn, 1) := by decide +kernel
theorem dJ6_bitCount_0f7a4_0 : decode cJ6_bitCount_0f7a4 0 = .ok (.iload_n 0, 1) := by decide +kernel
theorem dJ6_bitCount_0f7a4_1 : decode cJ6_bitCount_0f7a4 1 = .ok (.iload_n 0, 1) := by decide +kernel
theorem dJ6_bitCount_0f7a4_2 : decode cJ6_bitCount_0f7a4 2 = .ok (.iconst 1, 1) := by decide +kernel
theorem dJ6_bitCount_0f7a4_3 : decode cJ6_bitCount_0f7a4 3 = .ok (.iushr, 1) := by decide +kernel
theorem dJ6_bitCount_0f7a4_4 : decode cJ6_bitCount_0f7a4 4 = .ok (.ldc_w 265, 3) := by decide +kernel
theorem dJ6_bitCount_0f7a4_7 : decode cJ6_bitCount_0f7a4 7 = .ok (.iand, 1) := by decide +kernel
theorem dJ6_bitCount_0f7a4_8 : decode cJ6_bitCount_0f7a4 8 = .ok (.isub, 1) := by decide +kernel
theorem dJ6_bitCount_0f7a4_9 : decode cJ6_bitCount_0f7a4 9 = .ok (.istore_n 0, 1) := by decide +kernel
theorem dJ6_bitCount_0f7a4_10 : decode cJ6_bitCount_0f7a4 10 = .ok (.iload_n 0, 1) := by decide +kernel
theorem dJ6_bitCount_0f7a4_11 : decode cJ6_bitCount_0f7a4 11 = .ok (.ldc_w 266, 3) := by decide +kernel
theorem dJ6_bitCount_0f7a4_14 : decode cJ6_bitCount_0f7a4 14 = .ok (.iand, 1) := by decide +kernel
theorem dJ6_bitCount_0f7a4_15 : decode cJ6_bitCount_0f7a4 15 = .ok (.iload_n 0, 1) := by decide +kernel
theorem dJ6_bitCount_0f7a4_16 : decode cJ6_bitCount_0f7a4 16 = .ok (.iconst 2, 1) := by decide +kernel
theorem dJ6_bitCount_0f7a4_17 : decode cJ6_bitCount_0f7a4 17 = .ok (.iushr, 1) := by decide +kernel
theorem dJ6_bitCount_0f7a4_18 : decode cJ6_bitCount_0f7a4 18 = .ok (.ldc_w 266, 3) := by decide +kernel
theorem dJ6_bitCount_0f7a4_21 : decode cJ6_bitCount_0f7a4 21 = .ok (.iand, 1) := by decide +kernel
theorem dJ6_bitCount_0f7a4_22 : decode cJ6_bitCount_0f7a4 22 = .ok (.iadd, 1) := by decide +kernel
theorem dJ6_bitCount_0f7a4_23 : decode cJ6_bitCount_0f7a4 23 = .ok (.istore_n 0, 1) := by decide +kernel
theorem dJ6_bitCount_0f7a4_24 : decode cJ6_bitCount_0f7a4 24 = .ok (.iload_n 0, 1) := by decide +kernel
theorem dJ6_bitCount_0f7a4_25 : decode cJ6_bitCount_0f7a4 25 = .ok (.iload_n 0, 1) := by decide +kernel
theorem dJ6_bitCount_0f7a4_26 : decode cJ6_bitCount_0f7a4 26 = .ok (.iconst 4, 1) := by decide +kernel
theorem dJ6_bitCount_0f7a4_27 : decode cJ6_bitCount_0f7a4 27 = .ok (.iushr, 1) := by decide +kernel
theorem dJ6_bitCount_0f7a4_28 : decode cJ6_bitCount_0f7a4 28 = .ok (.iadd, 1) := by decide +kernel
theorem dJ6_bitCount_0f7a4_29 : decode cJ6_bitCount_0f7a4 29 = .ok (.ldc_w 267, 3) := by decide +kernel
theorem dJ6_bitCount_0f7a4_32 : decode cJ6_bitCount_0f7a4 32 = .ok (.iand, 1) := by decide +kernel
theorem dJ6_bitCount_0f7a4_33 : decode cJ6_bitCount_0f7a4 33 = .ok (.istore_n 0, 1) := by decide +kernel
theorem dJ6_bitCount_0f7a4_34 : decode cJ6_bitCount_0f7a4 34 = .ok (.iload_n 0, 1) := by decide +kernel
theorem dJ6_bitCount_0f7a4_35 : decode cJ6_bitCount_0f7a4 35 = .ok (.iload_n 0, 1) := by decide +kernel
theorem dJ6_bitCount_0f7a4_36 : decode cJ6_bitCount_0f7a4 36 = .ok (.bipush 8, 2) := by decide +kernel
theorem dJ6_bitCount_0f7a4_38 : decode cJ6_bitCount_0f7a4 38 = .ok (.iushr, 1) := by decide +kernel
theorem dJ6_bitCount_0f7a4_39 : decode cJ6_bitCount_0f7a4 39 = .ok (.iadd, 1) := by decide +kernel
theorem dJ6_bitCount_0f7a4_40 : decode cJ6_bitCount_0f7a4 40 = .ok (.istore_n 0, 1) := by decide +kernel
theorem dJ6_bitCount_0f7a4_41 : decode cJ6_bitCount_0f7a4 41 = .ok (.iload_n 0, 1) := by decide +kernel
theorem dJ6_bitCount_0f7a4_42 : decode cJ6_bitCount_0f7a4 42 = .ok (.iload_n 0, 1) := by decide +kernel
theorem dJ6_bitCount_0f7a4_43 : decode cJ6_bitCount_0f7a4 43 = .ok (.bipush 16, 2) := by decide +kernel
theorem dJ6_bitCount_0f7a4_45 : decode cJ6_bitCount_0f7a4 45 = .ok (.iushr, 1) := by decide +kernel
theorem dJ6_bitCount_0f7a4_46 : decode cJ6_bitCount_0f7a4 46 = .ok (.iadd, 1) := by decide +kernel
theorem dJ6_bitCount_0f7a4_47 : decode cJ6_bitCount_0f7a4 47 = .ok (.istore_n 0, 1) := by decide +kernel
theorem dJ6_bitCount_0f7a4_48 : decode cJ6_bitCount_0f7a4 48 = .ok (.iload_n 0, 1) := by decide +kernel
theorem dJ6_bitCount_0f7a4_49 : decode cJ6_bitCount_0f7a4 49 = .ok (.bipush 63, 2) := by decide +kernel
theorem dJ6_bitCount_0f7a4_51 : decode cJ6_bitCount_0f7a4 51 = .ok (.iand, 1) := by decide +kernel
theorem dJ6_bitCount_0f7a4_52 : decode cJ6_bitCount_0f7a4 52 = .ok (.ireturn, 1) := by decide +kernel
theorem dJ9_floorMod_7cf53_0 : decode cJ9_floorMod_7cf53 0 = .ok (.iload_n 0, 1) := by decide +kernel
theorem dJ9_floorMod_7cf53_1 : decode cJ9_floorMod_7cf53 1 = .ok (.iload_n 1, 1) := by decide +kernel
theorem dJ9_floorMod_7cf53_2 : decode cJ9_floorMod_7cf53 2 = .ok (.irem, 1) := by decide +kernel
theorem dJ9_floorMod_7cf53_3 : decode cJ9_floorMod_7cf53 3 = .ok (.istore_n 2, 1) := by decide +kernel
theorem dJ9_floorMod_7cf53_4 : decode cJ9_floorMod_7cf53 4 = .ok (.iload_n 0, 1) := by decide +kernel
theorem dJ9_floorMod_7cf53_5 : decode cJ9_floorMod_7cf53 5 = .ok (.iload_n 1, 1) := by decide +kernel
theorem dJ9_floorMod_7cf53_6 : decode cJ9_floorMod_7cf53 6 = .ok (.ixor, 1) := by decide +kernel
theorem dJ9_floorMod_7cf53_7 : decode cJ9_floorMod_7cf53 7 = .ok (.ifCond .ge 11, 3) := by decide +kernel
theorem dJ9_floorMod_7cf53_10 : decode cJ9_floorMod_7cf53 10 = .ok (.iload_n 2, 1) := by decide +kernel
theorem dJ9_floorMod_7cf53_11 : decode cJ9_floorMod_7cf53 11 = .ok (.ifCond .eq 7, 3) := by decide +kernel
theorem dJ9_floorMod_7cf53_14 : decode cJ9_floorMod_7cf53 14 = .ok (.iload_n 2, 1) := by decide +kernel
theorem dJ9_floorMod_7cf53_15 : decode cJ9_floorMod_7cf53 15 = .ok (.iload_n 1, 1) := by decide +kernel
theorem dJ9_floorMod_7cf53_16 : decode cJ9_floorMod_7cf53 16 = .ok (.iadd, 1) := by decide +kernel
theorem dJ9_floorMod_7cf53_17 : decode cJ9_floorMod_7cf53 17 = .ok (.ireturn, 1) := by decide +kernel
theorem dJ9_floorMod_7cf53_18 : decode cJ9_floorMod_7cf53 18 = .ok (.iload_n 2, 1) := by decide +kernel
theorem dJ9_floorMod_7cf53_19 : decode cJ9_floorMod_7cf53 19 = .ok (.ireturn, 1) := by decide +kernel
theorem dJ9_max_7cf53_0 : decode cJ9_max_7cf53 0 = .ok (.iload_n 0, 1) := by decide +kernel
theorem dJ9_max_7cf53_1 : decode cJ9_max_7cf53 1 = .ok (.iload_n 1, 1) := by decide +kernel
theorem dJ9_max_7cf53_2 : decode cJ9_max_7cf53 2 = .ok (.if_icmp .lt 7, 3) := by decide +kernel
theorem dJ9_max_7cf53_5 : decode cJ9_max_7cf53 5 = .ok (.iload_n 0, 1) := by decide +kernel
theorem dJ9_max_7cf53_6 : decode cJ9_max_7cf53 6 = .ok (.goto 4, 3) := by decide +kernel
theorem dJ9_max_7cf53_9 : decode cJ9_max_7cf53 9 = .ok (.iload_n 1, 1) := by decide +kernel
theorem dJ9_max_7cf53_10 : decode cJ9_max_7cf53 10 = .ok (.ireturn, 1) := by decide +kernel
theorem dJ9_min_7cf53_0 : decode cJ9_min_7cf53 0 = .ok (.iload_n 0, 1) := by decide +kernel
theorem dJ9_min_7cf53_1 : decode cJ9_min_7cf53 1 = .ok (.iload_n 1, 1) := by decide +kernel
theorem dJ9_min_7cf53_2 : decode cJ9_min_7cf53 2 = .ok (.if_icmp .gt 7, 3) := by decide +kernel
theorem dJ9_min_7cf53_5 : decode cJ9_min_7cf53 5 = .ok (.iload_n 0, 1) := by decide +kernel
theorem dJ9_min_7cf53_6 : decode cJ9_min_7cf53 6 = .ok (.goto 4, 3) := by decide +kernel
theorem dJ9_min_7cf53_9 : decode cJ9_min_7cf53 9 = .ok (.iload_n 1, 1) := by decide +kernel
theorem dJ9_min_7cf53_10 : decode cJ9_min_7cf53 10 = .ok (.ireturn, 1) := by decide +kernel
theorem dL_cell_0 : decode cL_cell 0 = .ok (.iload_n 1, 1) := by decide +kernel
theorem dL_cell_1 : decode cL_cell 1 = .ok (.aload_n 0, 1) := by decide +kernel
theorem dL_cell_2 : decode cL_cell 2 = .ok (.arraylength, 1) := by decide +kernel
theorem dL_cell_3 : decode cL_cell 3 = .ok (.if_icmp .ge 9, 3) := by decide +kernel
theorem dL_cell_6 : decode cL_cell 6 = .ok (.aload_n 0, 1) := by decide +kernel
theorem dL_cell_7 : decode cL_cell 7 = .ok (.iload_n 1, 1) := by decide +kernel
theorem dL_cell_8 : decode cL_cell 8 = .ok (.iaload, 1) := by decide +kernel
theorem dL_cell_9 : decode cL_cell 9 = .ok (.goto 15, 3) := by decide +kernel
theorem dL_cell_12 : decode cL_cell 12 = .ok (.sipush 7919, 3) := by decide +kernel
theorem dL_cell_15 : decode cL_cell 15 = .ok (.iload_n 1, 1) := by decide +kernel
theorem dL_cell_16 : decode cL_cell 16 = .ok (.iconst 3, 1) := by decide +kernel
theorem dL_cell_17 : decode cL_cell 17 = .ok (.iadd, 1) := by decide +kernel
theorem dL_cell_18 : decode cL_cell 18 = .ok (.imul, 1) := by decide +kernel
theorem dL_cell_19 : decode cL_cell 19 = .ok (.iload_n 1, 1) := by decide +kernel
theorem dL_cell_20 : decode cL_cell 20 = .ok (.bipush 11, 2) := by decide +kernel
theorem dL_cell_22 : decode cL_cell 22 = .ok (.iadd, 1) := by decide +kernel
theorem dL_cell_23 : decode cL_cell 23 = .ok (.imul, 1) := by decide +kernel
theorem dL_cell_24 : decode cL_cell 24 = .ok (.ireturn, 1) := by decide +kernel
theorem dL_low_0 : decode cL_low 0 = .ok (.iload_n 0, 1) := by decide +kernel
theorem dL_low_1 : decode cL_low 1 = .ok (.ldc 7, 2) := by decide +kernel
theorem dL_low_3 : decode cL_low 3 = .ok (.iand, 1) := by decide +kernel
theorem dL_low_4 : decode cL_low 4 = .ok (.iload_n 1, 1) := by decide +kernel
theorem dL_low_5 : decode cL_low 5 = .ok (.irem, 1) := by decide +kernel
theorem dL_low_6 : decode cL_low 6 = .ok (.ireturn, 1) := by decide +kernel
theorem dL_mild_0 : decode cL_mild 0 = .ok (.iload_n 0, 1) := by decide +kernel
theorem dL_mild_1 : decode cL_mild 1 = .ok (.bipush (-5), 2) := by decide +kernel
theorem dL_mild_3 : decode cL_mild 3 = .ok (.if_icmp .eq 15, 3) := by decide +kernel
theorem dL_mild_6 : decode cL_mild 6 = .ok (.iload_n 0, 1) := by decide +kernel
theorem dL_mild_7 : decode cL_mild 7 = .ok (.bipush (-4), 2) := by decide +kernel
theorem dL_mild_9 : decode cL_mild 9 = .ok (.if_icmp .eq 9, 3) := by decide +kernel
theorem dL_mild_12 : decode cL_mild 12 = .ok (.iload_n 0, 1) := by decide +kernel
theorem dL_mild_13 : decode cL_mild 13 = .ok (.bipush (-6), 2) := by decide +kernel
theorem dL_mild_15 : decode cL_mild 15 = .ok (.if_icmp .ne 7, 3) := by decide +kernel
theorem dL_mild_18 : decode cL_mild 18 = .ok (.iconst 0, 1) := by decide +kernel
theorem dL_mild_19 : decode cL_mild 19 = .ok (.goto 4, 3) := by decide +kernel
theorem dL_mild_22 : decode cL_mild 22 = .ok (.iload_n 0, 1) := by decide +kernel
theorem dL_mild_23 : decode cL_mild 23 = .ok (.ireturn, 1) := by decide +kernel
theorem dL_does_0 : decode cL_does 0 = .ok (.aload_n 0, 1) := by decide +kernel
theorem dL_does_1 : decode cL_does 1 = .ok (.iconst 1, 1) := by decide +kernel
theorem dL_does_2 : decode cL_does 2 = .ok (.invokevirtual 10, 3) := by decide +kernel
theorem dL_does_5 : decode cL_does 5 = .ok (.istore_n 2, 1) := by decide +kernel
theorem dL_does_6 : decode cL_does 6 = .ok (.iload_n 1, 1) := by decide +kernel
theorem dL_does_7 : decode cL_does 7 = .ok (.iconst 4, 1) := by decide +kernel
theorem dL_does_8 : decode cL_does 8 = .ok (.ishr, 1) := by decide +kernel
theorem dL_does_9 : decode cL_does 9 = .ok (.iload_n 2, 1) := by decide +kernel
theorem dL_does_10 : decode cL_does 10 = .ok (.invokestatic 14, 3) := by decide +kernel
theorem dL_does_13 : decode cL_does 13 = .ok (.istore_n 3, 1) := by decide +kernel
theorem dL_does_14 : decode cL_does 14 = .ok (.iload_n 3, 1) := by decide +kernel
theorem dL_does_15 : decode cL_does 15 = .ok (.iconst 1, 1) := by decide +kernel
theorem dL_does_16 : decode cL_does 16 = .ok (.iadd, 1) := by decide +kernel
theorem dL_does_17 : decode cL_does 17 = .ok (.iload_n 1, 1) := by decide +kernel
theorem dL_does_18 : decode cL_does 18 = .ok (.bipush 7, 2) := by decide +kernel
theorem dL_does_20 : decode cL_does 20 = .ok (.ishr, 1) := by decide +kernel
theorem dL_does_21 : decode cL_does 21 = .ok (.iload_n 2, 1) := by decide +kernel
theorem dL_does_22 : decode cL_does 22 = .ok (.iconst 1, 1) := by decide +kernel
theorem dL_does_23 : decode cL_does 23 = .ok (.isub, 1) := by decide +kernel
theorem dL_does_24 : decode cL_does 24 = .ok (.invokestatic 14, 3) := by decide +kernel
theorem dL_does_27 : decode cL_does 27 = .ok (.iadd, 1) := by decide +kernel
theorem dL_does_28 : decode cL_does 28 = .ok (.iload_n 2, 1) := by decide +kernel
theorem dL_does_29 : decode cL_does 29 = .ok (.irem, 1) := by decide +kernel
theorem dL_does_30 : decode cL_does 30 = .ok (.istore 4, 2) := by decide +kernel
theorem dL_does_32 : decode cL_does 32 = .ok (.aload_n 0, 1) := by decide +kernel
theorem dL_does_33 : decode cL_does 33 = .ok (.iconst 2, 1) := by decide +kernel
theorem dL_does_34 : decode cL_does 34 = .ok (.invokevirtual 10, 3) := by decide +kernel
theorem dL_does_37 : decode cL_does 37 = .ok (.istore 5, 2) := by decide +kernel
theorem dL_does_39 : decode cL_does 39 = .ok (.iload_n 1, 1) := by decide +kernel
theorem dL_does_40 : decode cL_does 40 = .ok (.bipush 15, 2) := by decide +kernel
theorem dL_does_42 : decode cL_does 42 = .ok (.iand, 1) := by decide +kernel
theorem dL_does_43 : decode cL_does 43 = .ok (.tableswitch 285 0 12 #[65, 65, 65, 65, 87, 98, 110, 110, 143, 143, 168, 177, 202], 65) := by decide +kernel
theorem dL_does_108 : decode cL_does 108 = .ok (.aload_n 0, 1) := by decide +kernel
theorem dL_does_109 : decode cL_does 109 = .ok (.iload_n 3, 1) := by decide +kernel
theorem dL_does_110 : decode cL_does 110 = .ok (.iload 4, 2) := by decide +kernel
theorem dL_does_112 : decode cL_does 112 = .ok (.iconst 1, 1) := by decide +kernel
theorem dL_does_113 : decode cL_does 113 = .ok (.iload_n 1, 1) := by decide +kernel
theorem dL_does_114 : decode cL_does 114 = .ok (.bipush 9, 2) := by decide +kernel
theorem dL_does_116 : decode cL_does 116 = .ok (.ishr, 1) := by decide +kernel
theorem dL_does_117 : decode cL_does 117 = .ok (.bipush 9, 2) := by decide +kernel
theorem dL_does_119 : decode cL_does 119 = .ok (.invokestatic 14, 3) := by decide +kernel
theorem dL_does_122 : decode cL_does 122 = .ok (.iadd, 1) := by decide +kernel
theorem dL_does_123 : decode cL_does 123 = .ok (.invokevirtual 20, 3) := by decide +kernel
theorem dL_does_126 : decode cL_does 126 = .ok (.invokestatic 24, 3) := by decide +kernel
theorem dL_does_129 : decode cL_does 129 = .ok (.ireturn, 1) := by decide +kernel
theorem dL_does_130 : decode cL_does 130 = .ok (.aload_n 0, 1) := by decide +kernel
theorem dL_does_131 : decode cL_does 131 = .ok (.iload_n 3, 1) := by decide +kernel
theorem dL_does_132 : decode cL_does 132 = .ok (.iload 4, 2) := by decide +kernel
theorem dL_does_134 : decode cL_does 134 = .ok (.invokevirtual 27, 3) := by decide +kernel
theorem dL_does_137 : decode cL_does 137 = .ok (.invokestatic 24, 3) := by decide +kernel
theorem dL_does_140 : decode cL_does 140 = .ok (.ireturn, 1) := by decide +kernel
theorem dL_does_141 : decode cL_does 141 = .ok (.aload_n 0, 1) := by decide +kernel
theorem dL_does_142 : decode cL_does 142 = .ok (.iload_n 1, 1) := by decide +kernel
theorem dL_does_143 : decode cL_does 143 = .ok (.iconst 4, 1) := by decide +kernel
theorem dL_does_144 : decode cL_does 144 = .ok (.ishr, 1) := by decide +kernel
theorem dL_does_145 : decode cL_does 145 = .ok (.iconst 5, 1) := by decide +kernel
theorem dL_does_146 : decode cL_does 146 = .ok (.invokestatic 14, 3) := by decide +kernel
theorem dL_does_149 : decode cL_does 149 = .ok (.invokevirtual 30, 3) := by decide +kernel
theorem dL_does_152 : decode cL_does 152 = .ok (.ireturn, 1) := by decide +kernel
theorem dL_does_153 : decode cL_does 153 = .ok (.iload 5, 2) := by decide +kernel
theorem dL_does_155 : decode cL_does 155 = .ok (.ifCond .ne 7, 3) := by decide +kernel
theorem dL_does_158 : decode cL_does 158 = .ok (.iconst 0, 1) := by decide +kernel
theorem dL_does_159 : decode cL_does 159 = .ok (.goto 26, 3) := by decide +kernel
theorem dL_does_162 : decode cL_does 162 = .ok (.aload_n 0, 1) := by decide +kernel
theorem dL_does_163 : decode cL_does 163 = .ok (.iload_n 1, 1) := by decide +kernel
theorem dL_does_164 : decode cL_does 164 = .ok (.iconst 4, 1) := by decide +kernel
theorem dL_does_165 : decode cL_does 165 = .ok (.ishr, 1) := by decide +kernel
theorem dL_does_166 : decode cL_does 166 = .ok (.iload 5, 2) := by decide +kernel
theorem dL_does_168 : decode cL_does 168 = .ok (.invokestatic 14, 3) := by decide +kernel
theorem dL_does_171 : decode cL_does 171 = .ok (.iload_n 1, 1) := by decide +kernel
theorem dL_does_172 : decode cL_does 172 = .ok (.bipush 8, 2) := by decide +kernel
theorem dL_does_174 : decode cL_does 174 = .ok (.ishr, 1) := by decide +kernel
theorem dL_does_175 : decode cL_does 175 = .ok (.iconst 5, 1) := by decide +kernel
theorem dL_does_176 : decode cL_does 176 = .ok (.invokestatic 14, 3) := by decide +kernel
theorem dL_does_179 : decode cL_does 179 = .ok (.invokevirtual 33, 3) := by decide +kernel
theorem dL_does_182 : decode cL_does 182 = .ok (.invokestatic 24, 3) := by decide +kernel
theorem dL_does_185 : decode cL_does 185 = .ok (.ireturn, 1) := by decide +kernel
theorem dL_does_186 : decode cL_does 186 = .ok (.iload 5, 2) := by decide +kernel
theorem dL_does_188 : decode cL_does 188 = .ok (.ifCond .ne 7, 3) := by decide +kernel
theorem dL_does_191 : decode cL_does 191 = .ok (.iconst 0, 1) := by decide +kernel
theorem dL_does_192 : decode cL_does 192 = .ok (.goto 18, 3) := by decide +kernel
theorem dL_does_195 : decode cL_does 195 = .ok (.aload_n 0, 1) := by decide +kernel
theorem dL_does_196 : decode cL_does 196 = .ok (.iload_n 1, 1) := by decide +kernel
theorem dL_does_197 : decode cL_does 197 = .ok (.iconst 4, 1) := by decide +kernel
theorem dL_does_198 : decode cL_does 198 = .ok (.ishr, 1) := by decide +kernel
theorem dL_does_199 : decode cL_does 199 = .ok (.iload 5, 2) := by decide +kernel
theorem dL_does_201 : decode cL_does 201 = .ok (.invokestatic 14, 3) := by decide +kernel
theorem dL_does_204 : decode cL_does 204 = .ok (.invokevirtual 36, 3) := by decide +kernel
theorem dL_does_207 : decode cL_does 207 = .ok (.invokestatic 24, 3) := by decide +kernel
theorem dL_does_210 : decode cL_does 210 = .ok (.ireturn, 1) := by decide +kernel
theorem dL_does_211 : decode cL_does 211 = .ok (.aload_n 0, 1) := by decide +kernel
theorem dL_does_212 : decode cL_does 212 = .ok (.iload_n 3, 1) := by decide +kernel
theorem dL_does_213 : decode cL_does 213 = .ok (.invokevirtual 39, 3) := by decide +kernel
theorem dL_does_216 : decode cL_does 216 = .ok (.invokestatic 24, 3) := by decide +kernel
theorem dL_does_219 : decode cL_does 219 = .ok (.ireturn, 1) := by decide +kernel
theorem dL_does_220 : decode cL_does 220 = .ok (.aload_n 0, 1) := by decide +kernel
theorem dL_does_221 : decode cL_does 221 = .ok (.iload_n 1, 1) := by decide +kernel
theorem dL_does_222 : decode cL_does 222 = .ok (.iconst 4, 1) := by decide +kernel
theorem dL_does_223 : decode cL_does 223 = .ok (.ishr, 1) := by decide +kernel
theorem dL_does_224 : decode cL_does 224 = .ok (.bipush 10, 2) := by decide +kernel
theorem dL_does_226 : decode cL_does 226 = .ok (.invokestatic 14, 3) := by decide +kernel
theorem dL_does_229 : decode cL_does 229 = .ok (.iload_n 1, 1) := by decide +kernel
theorem dL_does_230 : decode cL_does 230 = .ok (.bipush 7, 2) := by decide +kernel
theorem dL_does_232 : decode cL_does 232 = .ok (.ishr, 1) := by decide +kernel
theorem dL_does_233 : decode cL_does 233 = .ok (.bipush 10, 2) := by decide +kernel
theorem dL_does_235 : decode cL_does 235 = .ok (.invokestatic 14, 3) := by decide +kernel
theorem dL_does_238 : decode cL_does 238 = .ok (.invokevirtual 42, 3) := by decide +kernel
theorem dL_does_241 : decode cL_does 241 = .ok (.invokestatic 24, 3) := by decide +kernel
theorem dL_does_244 : decode cL_does 244 = .ok (.ireturn, 1) := by decide +kernel
theorem dL_does_245 : decode cL_does 245 = .ok (.iload_n 1, 1) := by decide +kernel
theorem dL_does_246 : decode cL_does 246 = .ok (.iconst 4, 1) := by decide +kernel
theorem dL_does_247 : decode cL_does 247 = .ok (.ishr, 1) := by decide +kernel
theorem dL_does_248 : decode cL_does 248 = .ok (.iconst 4, 1) := by decide +kernel
theorem dL_does_249 : decode cL_does 249 = .ok (.invokestatic 14, 3) := by decide +kernel
theorem dL_does_252 : decode cL_does 252 = .ok (.istore 6, 2) := by decide +kernel
theorem dL_does_254 : decode cL_does 254 = .ok (.aload_n 0, 1) := by decide +kernel
theorem dL_does_255 : decode cL_does 255 = .ok (.iload 6, 2) := by decide +kernel
theorem dL_does_257 : decode cL_does 257 = .ok (.iload 6, 2) := by decide +kernel
theorem dL_does_259 : decode cL_does 259 = .ok (.ifCond .ne 17, 3) := by decide +kernel
theorem dL_does_262 : decode cL_does 262 = .ok (.iconst 1, 1) := by decide +kernel
theorem dL_does_263 : decode cL_does 263 = .ok (.iload_n 1, 1) := by decide +kernel
theorem dL_does_264 : decode cL_does 264 = .ok (.bipush 6, 2) := by decide +kernel
theorem dL_does_266 : decode cL_does 266 = .ok (.ishr, 1) := by decide +kernel
theorem dL_does_267 : decode cL_does 267 = .ok (.bipush 12, 2) := by decide +kernel
theorem dL_does_269 : decode cL_does 269 = .ok (.invokestatic 14, 3) := by decide +kernel
theorem dL_does_272 : decode cL_does 272 = .ok (.iadd, 1) := by decide +kernel
theorem dL_does_273 : decode cL_does 273 = .ok (.goto 51, 3) := by decide +kernel
theorem dL_does_276 : decode cL_does 276 = .ok (.iload 6, 2) := by decide +kernel
theorem dL_does_278 : decode cL_does 278 = .ok (.iconst 1, 1) := by decide +kernel
theorem dL_does_279 : decode cL_does 279 = .ok (.if_icmp .ne 15, 3) := by decide +kernel
theorem dL_does_282 : decode cL_does 282 = .ok (.iload_n 1, 1) := by decide +kernel
theorem dL_does_283 : decode cL_does 283 = .ok (.bipush 6, 2) := by decide +kernel
theorem dL_does_285 : decode cL_does 285 = .ok (.ishr, 1) := by decide +kernel
theorem dL_does_286 : decode cL_does 286 = .ok (.bipush 40, 2) := by decide +kernel
theorem dL_does_288 : decode cL_does 288 = .ok (.invokestatic 14, 3) := by decide +kernel
theorem dL_does_291 : decode cL_does 291 = .ok (.goto 33, 3) := by decide +kernel
theorem dL_does_294 : decode cL_does 294 = .ok (.iload 6, 2) := by decide +kernel
theorem dL_does_296 : decode cL_does 296 = .ok (.iconst 2, 1) := by decide +kernel
theorem dL_does_297 : decode cL_does 297 = .ok (.if_icmp .ne 17, 3) := by decide +kernel
theorem dL_does_300 : decode cL_does 300 = .ok (.iconst 1, 1) := by decide +kernel
theorem dL_does_301 : decode cL_does 301 = .ok (.iload_n 1, 1) := by decide +kernel
theorem dL_does_302 : decode cL_does 302 = .ok (.bipush 6, 2) := by decide +kernel
theorem dL_does_304 : decode cL_does 304 = .ok (.ishr, 1) := by decide +kernel
theorem dL_does_305 : decode cL_does 305 = .ok (.bipush 60, 2) := by decide +kernel
theorem dL_does_307 : decode cL_does 307 = .ok (.invokestatic 14, 3) := by decide +kernel
theorem dL_does_310 : decode cL_does 310 = .ok (.iadd, 1) := by decide +kernel
theorem dL_does_311 : decode cL_does 311 = .ok (.goto 13, 3) := by decide +kernel
theorem dL_does_314 : decode cL_does 314 = .ok (.iload_n 1, 1) := by decide +kernel
theorem dL_does_315 : decode cL_does 315 = .ok (.bipush 6, 2) := by decide +kernel
theorem dL_does_317 : decode cL_does 317 = .ok (.ishr, 1) := by decide +kernel
theorem dL_does_318 : decode cL_does 318 = .ok (.sipush 200, 3) := by decide +kernel
theorem dL_does_321 : decode cL_does 321 = .ok (.invokestatic 14, 3) := by decide +kernel
theorem dL_does_324 : decode cL_does 324 = .ok (.invokevirtual 45, 3) := by decide +kernel
theorem dL_does_327 : decode cL_does 327 = .ok (.ireturn, 1) := by decide +kernel
theorem dL_does_328 : decode cL_does 328 = .ok (.aload_n 0, 1) := by decide +kernel
theorem dL_does_329 : decode cL_does 329 = .ok (.iconst 1, 1) := by decide +kernel
theorem dL_does_330 : decode cL_does 330 = .ok (.iload_n 1, 1) := by decide +kernel
