theorem dL_cell_0 : decode cL_cell 0 = .ok (.iload_n 1, 1) := by decide +kernel
theorem dL_cell_1 : decode cL_cell 1 = .ok (.aload_n 0, 1) := by decide +kernel
theorem dL_cell_2 : decode cL_cell 2 = .ok (.arraylength, 1) := by decide +kernel
theorem dL_cell_3 : decode cL_cell 3 = .ok (.if_icmp .ge 9, 3) := by decide +kernel
theorem dL_cell_6 : decode cL_cell 6 = .ok (.aload_n 0, 1) := by decide +kernel
theorem dL_cell_7 : decode cL_cell 7 = .ok (.iload_n 1, 1) := by decide +kernel
theorem dL_cell_8 : decode cL_cell 8 = .ok (.iaload, 1) := by decide +kernel
theorem dL_cell_9 : decode cL_cell 9 = .ok (.goto 18, 3) := by decide +kernel
theorem dL_cell_12 : decode cL_cell 12 = .ok (.sipush 7919, 3) := by decide +kernel
theorem dL_cell_15 : decode cL_cell 15 = .ok (.iload_n 1, 1) := by decide +kernel
theorem dL_cell_16 : decode cL_cell 16 = .ok (.sipush 571, 3) := by decide +kernel
theorem dL_cell_19 : decode cL_cell 19 = .ok (.iadd, 1) := by decide +kernel
theorem dL_cell_20 : decode cL_cell 20 = .ok (.imul, 1) := by decide +kernel
theorem dL_cell_21 : decode cL_cell 21 = .ok (.iload_n 1, 1) := by decide +kernel
theorem dL_cell_22 : decode cL_cell 22 = .ok (.sipush 2887, 3) := by decide +kernel
theorem dL_cell_25 : decode cL_cell 25 = .ok (.iadd, 1) := by decide +kernel
theorem dL_cell_26 : decode cL_cell 26 = .ok (.imul, 1) := by decide +kernel
theorem dL_cell_27 : decode cL_cell 27 = .ok (.ireturn, 1) := by decide +kernel
theorem dL_low_0 : decode cL_low 0 = .ok (.iload_n 0, 1) := by decide +kernel
theorem dL_low_1 : decode cL_low 1 = .ok (.ldc 7, 2) := by decide +kernel
theorem dL_low_3 : decode cL_low 3 = .ok (.iand, 1) := by decide +kernel
theorem dL_low_4 : decode cL_low 4 = .ok (.iload_n 1, 1) := by decide +kernel
theorem dL_low_5 : decode cL_low 5 = .ok (.irem, 1) := by decide +kernel
theorem dL_low_6 : decode cL_low 6 = .ok (.ireturn, 1) := by decide +kernel
theorem dL_does_0 : decode cL_does 0 = .ok (.iload_n 1, 1) := by decide +kernel
theorem dL_does_1 : decode cL_does 1 = .ok (.ifCond .ne 10, 3) := by decide +kernel
theorem dL_does_4 : decode cL_does 4 = .ok (.aload_n 0, 1) := by decide +kernel
theorem dL_does_5 : decode cL_does 5 = .ok (.invokevirtual 8, 3) := by decide +kernel
theorem dL_does_8 : decode cL_does 8 = .ok (.goto 121, 3) := by decide +kernel
theorem dL_does_11 : decode cL_does 11 = .ok (.iload_n 1, 1) := by decide +kernel
theorem dL_does_12 : decode cL_does 12 = .ok (.iconst 1, 1) := by decide +kernel
theorem dL_does_13 : decode cL_does 13 = .ok (.if_icmp .ne 20, 3) := by decide +kernel
theorem dL_does_16 : decode cL_does 16 = .ok (.aload_n 0, 1) := by decide +kernel
theorem dL_does_17 : decode cL_does 17 = .ok (.iload_n 2, 1) := by decide +kernel
theorem dL_does_18 : decode cL_does 18 = .ok (.iload_n 3, 1) := by decide +kernel
theorem dL_does_19 : decode cL_does 19 = .ok (.invokevirtual 14, 3) := by decide +kernel
theorem dL_does_22 : decode cL_does 22 = .ok (.ifCond .eq 7, 3) := by decide +kernel
theorem dL_does_25 : decode cL_does 25 = .ok (.iconst 1, 1) := by decide +kernel
theorem dL_does_26 : decode cL_does 26 = .ok (.goto 103, 3) := by decide +kernel
theorem dL_does_29 : decode cL_does 29 = .ok (.iconst 0, 1) := by decide +kernel
theorem dL_does_30 : decode cL_does 30 = .ok (.goto 99, 3) := by decide +kernel
theorem dL_does_33 : decode cL_does 33 = .ok (.iload_n 1, 1) := by decide +kernel
theorem dL_does_34 : decode cL_does 34 = .ok (.iconst 2, 1) := by decide +kernel
theorem dL_does_35 : decode cL_does 35 = .ok (.if_icmp .ne 20, 3) := by decide +kernel
theorem dL_does_38 : decode cL_does 38 = .ok (.aload_n 0, 1) := by decide +kernel
theorem dL_does_39 : decode cL_does 39 = .ok (.iload_n 2, 1) := by decide +kernel
theorem dL_does_40 : decode cL_does 40 = .ok (.iload_n 3, 1) := by decide +kernel
theorem dL_does_41 : decode cL_does 41 = .ok (.invokevirtual 18, 3) := by decide +kernel
theorem dL_does_44 : decode cL_does 44 = .ok (.ifCond .eq 7, 3) := by decide +kernel
theorem dL_does_47 : decode cL_does 47 = .ok (.iconst 1, 1) := by decide +kernel
theorem dL_does_48 : decode cL_does 48 = .ok (.goto 81, 3) := by decide +kernel
theorem dL_does_51 : decode cL_does 51 = .ok (.iconst 0, 1) := by decide +kernel
theorem dL_does_52 : decode cL_does 52 = .ok (.goto 77, 3) := by decide +kernel
theorem dL_does_55 : decode cL_does 55 = .ok (.iload_n 1, 1) := by decide +kernel
theorem dL_does_56 : decode cL_does 56 = .ok (.iconst 3, 1) := by decide +kernel
theorem dL_does_57 : decode cL_does 57 = .ok (.if_icmp .ne 14, 3) := by decide +kernel
theorem dL_does_60 : decode cL_does 60 = .ok (.aload_n 0, 1) := by decide +kernel
theorem dL_does_61 : decode cL_does 61 = .ok (.iload_n 2, 1) := by decide +kernel
theorem dL_does_62 : decode cL_does 62 = .ok (.iload_n 3, 1) := by decide +kernel
theorem dL_does_63 : decode cL_does 63 = .ok (.iload 4, 2) := by decide +kernel
theorem dL_does_65 : decode cL_does 65 = .ok (.invokevirtual 21, 3) := by decide +kernel
theorem dL_does_68 : decode cL_does 68 = .ok (.goto 61, 3) := by decide +kernel
theorem dL_does_71 : decode cL_does 71 = .ok (.iload_n 1, 1) := by decide +kernel
theorem dL_does_72 : decode cL_does 72 = .ok (.iconst 4, 1) := by decide +kernel
theorem dL_does_73 : decode cL_does 73 = .ok (.if_icmp .ne 10, 3) := by decide +kernel
theorem dL_does_76 : decode cL_does 76 = .ok (.aload_n 0, 1) := by decide +kernel
theorem dL_does_77 : decode cL_does 77 = .ok (.invokevirtual 25, 3) := by decide +kernel
theorem dL_does_80 : decode cL_does 80 = .ok (.goto 49, 3) := by decide +kernel
theorem dL_does_83 : decode cL_does 83 = .ok (.iload_n 1, 1) := by decide +kernel
theorem dL_does_84 : decode cL_does 84 = .ok (.iconst 5, 1) := by decide +kernel
theorem dL_does_85 : decode cL_does 85 = .ok (.if_icmp .ne 14, 3) := by decide +kernel
theorem dL_does_88 : decode cL_does 88 = .ok (.aload_n 0, 1) := by decide +kernel
theorem dL_does_89 : decode cL_does 89 = .ok (.iload_n 2, 1) := by decide +kernel
theorem dL_does_90 : decode cL_does 90 = .ok (.iload_n 3, 1) := by decide +kernel
theorem dL_does_91 : decode cL_does 91 = .ok (.iload 4, 2) := by decide +kernel
theorem dL_does_93 : decode cL_does 93 = .ok (.invokevirtual 28, 3) := by decide +kernel
theorem dL_does_96 : decode cL_does 96 = .ok (.goto 33, 3) := by decide +kernel
theorem dL_does_99 : decode cL_does 99 = .ok (.iload_n 1, 1) := by decide +kernel
theorem dL_does_100 : decode cL_does 100 = .ok (.bipush 8, 2) := by decide +kernel
theorem dL_does_102 : decode cL_does 102 = .ok (.if_icmp .ge 23, 3) := by decide +kernel
theorem dL_does_105 : decode cL_does 105 = .ok (.aload_n 0, 1) := by decide +kernel
theorem dL_does_106 : decode cL_does 106 = .ok (.iload_n 2, 1) := by decide +kernel
theorem dL_does_107 : decode cL_does 107 = .ok (.iload_n 3, 1) := by decide +kernel
theorem dL_does_108 : decode cL_does 108 = .ok (.iload_n 1, 1) := by decide +kernel
theorem dL_does_109 : decode cL_does 109 = .ok (.bipush 6, 2) := by decide +kernel
theorem dL_does_111 : decode cL_does 111 = .ok (.if_icmp .ne 7, 3) := by decide +kernel
theorem dL_does_114 : decode cL_does 114 = .ok (.iconst 1, 1) := by decide +kernel
theorem dL_does_115 : decode cL_does 115 = .ok (.goto 4, 3) := by decide +kernel
theorem dL_does_118 : decode cL_does 118 = .ok (.iconst 0, 1) := by decide +kernel
theorem dL_does_119 : decode cL_does 119 = .ok (.invokevirtual 31, 3) := by decide +kernel
theorem dL_does_122 : decode cL_does 122 = .ok (.goto 7, 3) := by decide +kernel
theorem dL_does_125 : decode cL_does 125 = .ok (.aload_n 0, 1) := by decide +kernel
theorem dL_does_126 : decode cL_does 126 = .ok (.invokevirtual 35, 3) := by decide +kernel
theorem dL_does_129 : decode cL_does 129 = .ok (.ireturn, 1) := by decide +kernel
theorem dL_does_130 : decode cL_does 130 = .ok (.astore 5, 2) := by decide +kernel
theorem dL_does_132 : decode cL_does 132 = .ok (.ldc 40, 2) := by decide +kernel
theorem dL_does_134 : decode cL_does 134 = .ok (.ireturn, 1) := by decide +kernel
theorem dL_does_135 : decode cL_does 135 = .ok (.astore 5, 2) := by decide +kernel
theorem dL_does_137 : decode cL_does 137 = .ok (.ldc 40, 2) := by decide +kernel
theorem dL_does_139 : decode cL_does 139 = .ok (.ireturn, 1) := by decide +kernel
theorem dL_does_140 : decode cL_does 140 = .ok (.astore 5, 2) := by decide +kernel
theorem dL_does_142 : decode cL_does 142 = .ok (.ldc 40, 2) := by decide +kernel
theorem dL_does_144 : decode cL_does 144 = .ok (.ireturn, 1) := by decide +kernel
theorem dL_type_0 : decode cL_type 0 = .ok (.aload_n 0, 1) := by decide +kernel
theorem dL_type_1 : decode cL_type 1 = .ok (.iload_n 1, 1) := by decide +kernel
theorem dL_type_2 : decode cL_type 2 = .ok (.invokevirtual 45, 3) := by decide +kernel
theorem dL_type_5 : decode cL_type 5 = .ok (.ireturn, 1) := by decide +kernel
theorem dL_type_6 : decode cL_type 6 = .ok (.astore_n 2, 1) := by decide +kernel
theorem dL_type_7 : decode cL_type 7 = .ok (.ldc 40, 2) := by decide +kernel
theorem dL_type_9 : decode cL_type 9 = .ok (.ireturn, 1) := by decide +kernel
theorem dL_type_10 : decode cL_type 10 = .ok (.astore_n 2, 1) := by decide +kernel
theorem dL_type_11 : decode cL_type 11 = .ok (.ldc 40, 2) := by decide +kernel
theorem dL_type_13 : decode cL_type 13 = .ok (.ireturn, 1) := by decide +kernel
theorem dL_standing_0 : decode cL_standing 0 = .ok (.aload_n 0, 1) := by decide +kernel
theorem dL_standing_1 : decode cL_standing 1 = .ok (.iload_n 1, 1) := by decide +kernel
theorem dL_standing_2 : decode cL_standing 2 = .ok (.invokevirtual 49, 3) := by decide +kernel
theorem dL_standing_5 : decode cL_standing 5 = .ok (.ireturn, 1) := by decide +kernel
theorem dL_standing_6 : decode cL_standing 6 = .ok (.astore_n 2, 1) := by decide +kernel
theorem dL_standing_7 : decode cL_standing 7 = .ok (.ldc 40, 2) := by decide +kernel
theorem dL_standing_9 : decode cL_standing 9 = .ok (.ireturn, 1) := by decide +kernel
theorem dL_match_0 : decode cL_match 0 = .ok (.aload_n 0, 1) := by decide +kernel
theorem dL_match_1 : decode cL_match 1 = .ok (.iload_n 1, 1) := by decide +kernel
theorem dL_match_2 : decode cL_match 2 = .ok (.iload_n 2, 1) := by decide +kernel
theorem dL_match_3 : decode cL_match 3 = .ok (.iload_n 3, 1) := by decide +kernel
theorem dL_match_4 : decode cL_match 4 = .ok (.iload 4, 2) := by decide +kernel
theorem dL_match_6 : decode cL_match 6 = .ok (.invokevirtual 53, 3) := by decide +kernel
theorem dL_match_9 : decode cL_match 9 = .ok (.ireturn, 1) := by decide +kernel
theorem dL_match_10 : decode cL_match 10 = .ok (.astore 5, 2) := by decide +kernel
theorem dL_match_12 : decode cL_match 12 = .ok (.ldc 40, 2) := by decide +kernel
theorem dL_match_14 : decode cL_match 14 = .ok (.ireturn, 1) := by decide +kernel
theorem dL_act_0 : decode cL_act 0 = .ok (.iload_n 1, 1) := by decide +kernel
theorem dL_act_1 : decode cL_act 1 = .ok (.bipush 24, 2) := by decide +kernel
theorem dL_act_3 : decode cL_act 3 = .ok (.ishr, 1) := by decide +kernel
theorem dL_act_4 : decode cL_act 4 = .ok (.bipush 8, 2) := by decide +kernel
theorem dL_act_6 : decode cL_act 6 = .ok (.invokestatic 57, 3) := by decide +kernel
theorem dL_act_9 : decode cL_act 9 = .ok (.ifCond .ne 7, 3) := by decide +kernel
theorem dL_act_12 : decode cL_act 12 = .ok (.iconst 1, 1) := by decide +kernel
theorem dL_act_13 : decode cL_act 13 = .ok (.goto 4, 3) := by decide +kernel
theorem dL_act_16 : decode cL_act 16 = .ok (.iconst 0, 1) := by decide +kernel
theorem dL_act_17 : decode cL_act 17 = .ok (.istore_n 2, 1) := by decide +kernel
theorem dL_act_18 : decode cL_act 18 = .ok (.iload_n 1, 1) := by decide +kernel
theorem dL_act_19 : decode cL_act 19 = .ok (.bipush 40, 2) := by decide +kernel
theorem dL_act_21 : decode cL_act 21 = .ok (.invokestatic 57, 3) := by decide +kernel
theorem dL_act_24 : decode cL_act 24 = .ok (.istore_n 3, 1) := by decide +kernel
theorem dL_act_25 : decode cL_act 25 = .ok (.iload_n 2, 1) := by decide +kernel
theorem dL_act_26 : decode cL_act 26 = .ok (.ifCond .eq 17, 3) := by decide +kernel
theorem dL_act_29 : decode cL_act 29 = .ok (.iload_n 1, 1) := by decide +kernel
theorem dL_act_30 : decode cL_act 30 = .ok (.bipush 6, 2) := by decide +kernel
theorem dL_act_32 : decode cL_act 32 = .ok (.ishr, 1) := by decide +kernel
theorem dL_act_33 : decode cL_act 33 = .ok (.bipush 26, 2) := by decide +kernel
theorem dL_act_35 : decode cL_act 35 = .ok (.invokestatic 57, 3) := by decide +kernel
theorem dL_act_38 : decode cL_act 38 = .ok (.iconst 1, 1) := by decide +kernel
theorem dL_act_39 : decode cL_act 39 = .ok (.isub, 1) := by decide +kernel
theorem dL_act_40 : decode cL_act 40 = .ok (.goto 14, 3) := by decide +kernel
theorem dL_act_43 : decode cL_act 43 = .ok (.iload_n 1, 1) := by decide +kernel
theorem dL_act_44 : decode cL_act 44 = .ok (.bipush 6, 2) := by decide +kernel
theorem dL_act_46 : decode cL_act 46 = .ok (.ishr, 1) := by decide +kernel
theorem dL_act_47 : decode cL_act 47 = .ok (.aload_n 0, 1) := by decide +kernel
theorem dL_act_48 : decode cL_act 48 = .ok (.invokevirtual 63, 3) := by decide +kernel
theorem dL_act_51 : decode cL_act 51 = .ok (.invokestatic 57, 3) := by decide +kernel
theorem dL_act_54 : decode cL_act 54 = .ok (.istore 4, 2) := by decide +kernel
theorem dL_act_56 : decode cL_act 56 = .ok (.iload_n 2, 1) := by decide +kernel
theorem dL_act_57 : decode cL_act 57 = .ok (.ifCond .eq 17, 3) := by decide +kernel
theorem dL_act_60 : decode cL_act 60 = .ok (.iload_n 1, 1) := by decide +kernel
theorem dL_act_61 : decode cL_act 61 = .ok (.bipush 9, 2) := by decide +kernel
theorem dL_act_63 : decode cL_act 63 = .ok (.ishr, 1) := by decide +kernel
theorem dL_act_64 : decode cL_act 64 = .ok (.bipush 26, 2) := by decide +kernel
theorem dL_act_66 : decode cL_act 66 = .ok (.invokestatic 57, 3) := by decide +kernel
theorem dL_act_69 : decode cL_act 69 = .ok (.iconst 1, 1) := by decide +kernel
theorem dL_act_70 : decode cL_act 70 = .ok (.isub, 1) := by decide +kernel
theorem dL_act_71 : decode cL_act 71 = .ok (.goto 14, 3) := by decide +kernel
theorem dL_act_74 : decode cL_act 74 = .ok (.iload_n 1, 1) := by decide +kernel
theorem dL_act_75 : decode cL_act 75 = .ok (.bipush 9, 2) := by decide +kernel
theorem dL_act_77 : decode cL_act 77 = .ok (.ishr, 1) := by decide +kernel
theorem dL_act_78 : decode cL_act 78 = .ok (.aload_n 0, 1) := by decide +kernel
theorem dL_act_79 : decode cL_act 79 = .ok (.invokevirtual 63, 3) := by decide +kernel
theorem dL_act_82 : decode cL_act 82 = .ok (.invokestatic 57, 3) := by decide +kernel
theorem dL_act_85 : decode cL_act 85 = .ok (.istore 5, 2) := by decide +kernel
theorem dL_act_87 : decode cL_act 87 = .ok (.iload_n 3, 1) := by decide +kernel
theorem dL_act_88 : decode cL_act 88 = .ok (.iconst 4, 1) := by decide +kernel
theorem dL_act_89 : decode cL_act 89 = .ok (.if_icmp .ge 68, 3) := by decide +kernel
theorem dL_act_92 : decode cL_act 92 = .ok (.iload_n 3, 1) := by decide +kernel
theorem dL_act_93 : decode cL_act 93 = .ok (.iconst 2, 1) := by decide +kernel
theorem dL_act_94 : decode cL_act 94 = .ok (.if_icmp .ge 37, 3) := by decide +kernel
theorem dL_act_97 : decode cL_act 97 = .ok (.aload_n 0, 1) := by decide +kernel
theorem dL_act_98 : decode cL_act 98 = .ok (.iload_n 2, 1) := by decide +kernel
theorem dL_act_99 : decode cL_act 99 = .ok (.ifCond .eq 15, 3) := by decide +kernel
theorem dL_act_102 : decode cL_act 102 = .ok (.iload_n 1, 1) := by decide +kernel
theorem dL_act_103 : decode cL_act 103 = .ok (.iconst 5, 1) := by decide +kernel
theorem dL_act_104 : decode cL_act 104 = .ok (.ishr, 1) := by decide +kernel
theorem dL_act_105 : decode cL_act 105 = .ok (.sipush 128, 3) := by decide +kernel
theorem dL_act_108 : decode cL_act 108 = .ok (.invokestatic 57, 3) := by decide +kernel
theorem dL_act_111 : decode cL_act 111 = .ok (.goto 13, 3) := by decide +kernel
theorem dL_act_114 : decode cL_act 114 = .ok (.bipush 97, 2) := by decide +kernel
theorem dL_act_116 : decode cL_act 116 = .ok (.iload_n 1, 1) := by decide +kernel
theorem dL_act_117 : decode cL_act 117 = .ok (.iconst 5, 1) := by decide +kernel
theorem dL_act_118 : decode cL_act 118 = .ok (.ishr, 1) := by decide +kernel
theorem dL_act_119 : decode cL_act 119 = .ok (.iconst 3, 1) := by decide +kernel
theorem dL_act_120 : decode cL_act 120 = .ok (.invokestatic 57, 3) := by decide +kernel
theorem dL_act_123 : decode cL_act 123 = .ok (.iadd, 1) := by decide +kernel
theorem dL_act_124 : decode cL_act 124 = .ok (.i2c, 1) := by decide +kernel
theorem dL_act_125 : decode cL_act 125 = .ok (.invokestatic 66, 3) := by decide +kernel
theorem dL_act_128 : decode cL_act 128 = .ok (.goto 28, 3) := by decide +kernel
theorem dL_act_131 : decode cL_act 131 = .ok (.iload_n 3, 1) := by decide +kernel
theorem dL_act_132 : decode cL_act 132 = .ok (.iconst 2, 1) := by decide +kernel
theorem dL_act_133 : decode cL_act 133 = .ok (.if_icmp .ne 15, 3) := by decide +kernel
theorem dL_act_136 : decode cL_act 136 = .ok (.aload_n 0, 1) := by decide +kernel
theorem dL_act_137 : decode cL_act 137 = .ok (.bipush 8, 2) := by decide +kernel
theorem dL_act_139 : decode cL_act 139 = .ok (.iconst 0, 1) := by decide +kernel
theorem dL_act_140 : decode cL_act 140 = .ok (.iconst 0, 1) := by decide +kernel
theorem dL_act_141 : decode cL_act 141 = .ok (.iconst 0, 1) := by decide +kernel
theorem dL_act_142 : decode cL_act 142 = .ok (.invokestatic 69, 3) := by decide +kernel
theorem dL_act_145 : decode cL_act 145 = .ok (.goto 11, 3) := by decide +kernel
theorem dL_act_148 : decode cL_act 148 = .ok (.aload_n 0, 1) := by decide +kernel
theorem dL_act_149 : decode cL_act 149 = .ok (.iconst 0, 1) := by decide +kernel
theorem dL_act_150 : decode cL_act 150 = .ok (.iconst 0, 1) := by decide +kernel
theorem dL_act_151 : decode cL_act 151 = .ok (.iconst 0, 1) := by decide +kernel
theorem dL_act_152 : decode cL_act 152 = .ok (.iconst 0, 1) := by decide +kernel
theorem dL_act_153 : decode cL_act 153 = .ok (.invokestatic 69, 3) := by decide +kernel
theorem dL_act_156 : decode cL_act 156 = .ok (.ireturn, 1) := by decide +kernel
theorem dL_act_157 : decode cL_act 157 = .ok (.iload_n 3, 1) := by decide +kernel
theorem dL_act_158 : decode cL_act 158 = .ok (.bipush 14, 2) := by decide +kernel
theorem dL_act_160 : decode cL_act 160 = .ok (.if_icmp .ge 49, 3) := by decide +kernel
theorem dL_act_163 : decode cL_act 163 = .ok (.aload_n 0, 1) := by decide +kernel
theorem dL_act_164 : decode cL_act 164 = .ok (.iload_n 3, 1) := by decide +kernel
theorem dL_act_165 : decode cL_act 165 = .ok (.bipush 11, 2) := by decide +kernel
theorem dL_act_167 : decode cL_act 167 = .ok (.if_icmp .ge 7, 3) := by decide +kernel
theorem dL_act_170 : decode cL_act 170 = .ok (.iconst 1, 1) := by decide +kernel
theorem dL_act_171 : decode cL_act 171 = .ok (.goto 4, 3) := by decide +kernel
theorem dL_act_174 : decode cL_act 174 = .ok (.iconst 2, 1) := by decide +kernel
theorem dL_act_175 : decode cL_act 175 = .ok (.iload_n 2, 1) := by decide +kernel
theorem dL_act_176 : decode cL_act 176 = .ok (.ifCond .eq 16, 3) := by decide +kernel
theorem dL_act_179 : decode cL_act 179 = .ok (.iload_n 1, 1) := by decide +kernel
theorem dL_act_180 : decode cL_act 180 = .ok (.iconst 4, 1) := by decide +kernel
theorem dL_act_181 : decode cL_act 181 = .ok (.ishr, 1) := by decide +kernel
theorem dL_act_182 : decode cL_act 182 = .ok (.bipush 24, 2) := by decide +kernel
theorem dL_act_184 : decode cL_act 184 = .ok (.invokestatic 57, 3) := by decide +kernel
theorem dL_act_187 : decode cL_act 187 = .ok (.iconst 1, 1) := by decide +kernel
theorem dL_act_188 : decode cL_act 188 = .ok (.isub, 1) := by decide +kernel
theorem dL_act_189 : decode cL_act 189 = .ok (.goto 13, 3) := by decide +kernel
theorem dL_act_192 : decode cL_act 192 = .ok (.iload_n 1, 1) := by decide +kernel
theorem dL_act_193 : decode cL_act 193 = .ok (.iconst 4, 1) := by decide +kernel
theorem dL_act_194 : decode cL_act 194 = .ok (.ishr, 1) := by decide +kernel
theorem dL_act_195 : decode cL_act 195 = .ok (.aload_n 0, 1) := by decide +kernel
theorem dL_act_196 : decode cL_act 196 = .ok (.invokevirtual 73, 3) := by decide +kernel
theorem dL_act_199 : decode cL_act 199 = .ok (.invokestatic 57, 3) := by decide +kernel
theorem dL_act_202 : decode cL_act 202 = .ok (.iload 4, 2) := by decide +kernel
theorem dL_act_204 : decode cL_act 204 = .ok (.iconst 0, 1) := by decide +kernel
theorem dL_act_205 : decode cL_act 205 = .ok (.invokestatic 69, 3) := by decide +kernel
theorem dL_act_208 : decode cL_act 208 = .ok (.ireturn, 1) := by decide +kernel
theorem dL_act_209 : decode cL_act 209 = .ok (.iload_n 3, 1) := by decide +kernel
theorem dL_act_210 : decode cL_act 210 = .ok (.bipush 18, 2) := by decide +kernel
theorem dL_act_212 : decode cL_act 212 = .ok (.if_icmp .ge 55, 3) := by decide +kernel
theorem dL_act_215 : decode cL_act 215 = .ok (.iload_n 3, 1) := by decide +kernel
theorem dL_act_216 : decode cL_act 216 = .ok (.bipush 17, 2) := by decide +kernel
theorem dL_act_218 : decode cL_act 218 = .ok (.if_icmp .ge 40, 3) := by decide +kernel
theorem dL_act_221 : decode cL_act 221 = .ok (.aload_n 0, 1) := by decide +kernel
theorem dL_act_222 : decode cL_act 222 = .ok (.iconst 3, 1) := by decide +kernel
theorem dL_act_223 : decode cL_act 223 = .ok (.iload_n 2, 1) := by decide +kernel
theorem dL_act_224 : decode cL_act 224 = .ok (.ifCond .eq 16, 3) := by decide +kernel
theorem dL_act_227 : decode cL_act 227 = .ok (.iload_n 1, 1) := by decide +kernel
theorem dL_act_228 : decode cL_act 228 = .ok (.bipush 13, 2) := by decide +kernel
theorem dL_act_230 : decode cL_act 230 = .ok (.ishr, 1) := by decide +kernel
theorem dL_act_231 : decode cL_act 231 = .ok (.iconst 5, 1) := by decide +kernel
theorem dL_act_232 : decode cL_act 232 = .ok (.invokestatic 57, 3) := by decide +kernel
theorem dL_act_235 : decode cL_act 235 = .ok (.iconst 1, 1) := by decide +kernel
theorem dL_act_236 : decode cL_act 236 = .ok (.isub, 1) := by decide +kernel
theorem dL_act_237 : decode cL_act 237 = .ok (.goto 11, 3) := by decide +kernel
theorem dL_act_240 : decode cL_act 240 = .ok (.iload_n 1, 1) := by decide +kernel
theorem dL_act_241 : decode cL_act 241 = .ok (.bipush 13, 2) := by decide +kernel
theorem dL_act_243 : decode cL_act 243 = .ok (.ishr, 1) := by decide +kernel
theorem dL_act_244 : decode cL_act 244 = .ok (.iconst 3, 1) := by decide +kernel
theorem dL_act_245 : decode cL_act 245 = .ok (.invokestatic 57, 3) := by decide +kernel
theorem dL_act_248 : decode cL_act 248 = .ok (.iload 4, 2) := by decide +kernel
theorem dL_act_250 : decode cL_act 250 = .ok (.iload 5, 2) := by decide +kernel
theorem dL_act_252 : decode cL_act 252 = .ok (.invokestatic 69, 3) := by decide +kernel
theorem dL_act_255 : decode cL_act 255 = .ok (.goto 11, 3) := by decide +kernel
theorem dL_act_258 : decode cL_act 258 = .ok (.aload_n 0, 1) := by decide +kernel
theorem dL_act_259 : decode cL_act 259 = .ok (.iconst 4, 1) := by decide +kernel
theorem dL_act_260 : decode cL_act 260 = .ok (.iconst 0, 1) := by decide +kernel
theorem dL_act_261 : decode cL_act 261 = .ok (.iconst 0, 1) := by decide +kernel
theorem dL_act_262 : decode cL_act 262 = .ok (.iconst 0, 1) := by decide +kernel
theorem dL_act_263 : decode cL_act 263 = .ok (.invokestatic 69, 3) := by decide +kernel
theorem dL_act_266 : decode cL_act 266 = .ok (.ireturn, 1) := by decide +kernel
theorem dL_act_267 : decode cL_act 267 = .ok (.iload_n 3, 1) := by decide +kernel
theorem dL_act_268 : decode cL_act 268 = .ok (.bipush 28, 2) := by decide +kernel
theorem dL_act_270 : decode cL_act 270 = .ok (.if_icmp .ge 106, 3) := by decide +kernel
theorem dL_act_273 : decode cL_act 273 = .ok (.iload_n 2, 1) := by decide +kernel
theorem dL_act_274 : decode cL_act 274 = .ok (.ifCond .eq 17, 3) := by decide +kernel
theorem dL_act_277 : decode cL_act 277 = .ok (.iload_n 1, 1) := by decide +kernel
theorem dL_act_278 : decode cL_act 278 = .ok (.bipush 13, 2) := by decide +kernel
theorem dL_act_280 : decode cL_act 280 = .ok (.ishr, 1) := by decide +kernel
theorem dL_act_281 : decode cL_act 281 = .ok (.bipush 6, 2) := by decide +kernel
theorem dL_act_283 : decode cL_act 283 = .ok (.invokestatic 57, 3) := by decide +kernel
theorem dL_act_286 : decode cL_act 286 = .ok (.iconst 1, 1) := by decide +kernel
theorem dL_act_287 : decode cL_act 287 = .ok (.isub, 1) := by decide +kernel
theorem dL_act_288 : decode cL_act 288 = .ok (.goto 34, 3) := by decide +kernel
theorem dL_act_291 : decode cL_act 291 = .ok (.iload_n 3, 1) := by decide +kernel
theorem dL_act_292 : decode cL_act 292 = .ok (.bipush 21, 2) := by decide +kernel
theorem dL_act_294 : decode cL_act 294 = .ok (.if_icmp .ge 7, 3) := by decide +kernel
theorem dL_act_297 : decode cL_act 297 = .ok (.iconst 0, 1) := by decide +kernel
theorem dL_act_298 : decode cL_act 298 = .ok (.goto 24, 3) := by decide +kernel
theorem dL_act_301 : decode cL_act 301 = .ok (.iload_n 3, 1) := by decide +kernel
theorem dL_act_302 : decode cL_act 302 = .ok (.bipush 25, 2) := by decide +kernel
theorem dL_act_304 : decode cL_act 304 = .ok (.if_icmp .ge 7, 3) := by decide +kernel
theorem dL_act_307 : decode cL_act 307 = .ok (.iconst 1, 1) := by decide +kernel
theorem dL_act_308 : decode cL_act 308 = .ok (.goto 14, 3) := by decide +kernel
theorem dL_act_311 : decode cL_act 311 = .ok (.iload_n 3, 1) := by decide +kernel
theorem dL_act_312 : decode cL_act 312 = .ok (.bipush 26, 2) := by decide +kernel
theorem dL_act_314 : decode cL_act 314 = .ok (.if_icmp .ge 7, 3) := by decide +kernel
theorem dL_act_317 : decode cL_act 317 = .ok (.iconst 2, 1) := by decide +kernel
theorem dL_act_318 : decode cL_act 318 = .ok (.goto 4, 3) := by decide +kernel
theorem dL_act_321 : decode cL_act 321 = .ok (.iconst 3, 1) := by decide +kernel
theorem dL_act_322 : decode cL_act 322 = .ok (.istore 6, 2) := by decide +kernel
theorem dL_act_324 : decode cL_act 324 = .ok (.aload_n 0, 1) := by decide +kernel
theorem dL_act_325 : decode cL_act 325 = .ok (.iconst 5, 1) := by decide +kernel
theorem dL_act_326 : decode cL_act 326 = .ok (.iload 6, 2) := by decide +kernel
theorem dL_act_328 : decode cL_act 328 = .ok (.iload 4, 2) := by decide +kernel
theorem dL_act_330 : decode cL_act 330 = .ok (.iload 5, 2) := by decide +kernel
theorem dL_act_332 : decode cL_act 332 = .ok (.invokestatic 69, 3) := by decide +kernel
theorem dL_act_335 : decode cL_act 335 = .ok (.istore 7, 2) := by decide +kernel
theorem dL_act_337 : decode cL_act 337 = .ok (.iload 7, 2) := by decide +kernel
theorem dL_act_339 : decode cL_act 339 = .ok (.ifCond .lt 29, 3) := by decide +kernel
theorem dL_act_342 : decode cL_act 342 = .ok (.aload_n 0, 1) := by decide +kernel
theorem dL_act_343 : decode cL_act 343 = .ok (.bipush 6, 2) := by decide +kernel
theorem dL_act_345 : decode cL_act 345 = .ok (.iload 7, 2) := by decide +kernel
theorem dL_act_347 : decode cL_act 347 = .ok (.iconst 0, 1) := by decide +kernel
theorem dL_act_348 : decode cL_act 348 = .ok (.iconst 0, 1) := by decide +kernel
theorem dL_act_349 : decode cL_act 349 = .ok (.invokestatic 69, 3) := by decide +kernel
theorem dL_act_352 : decode cL_act 352 = .ok (.ifCond .ne 21, 3) := by decide +kernel
theorem dL_act_355 : decode cL_act 355 = .ok (.aload_n 0, 1) := by decide +kernel
theorem dL_act_356 : decode cL_act 356 = .ok (.bipush 6, 2) := by decide +kernel
theorem dL_act_358 : decode cL_act 358 = .ok (.iload 7, 2) := by decide +kernel
theorem dL_act_360 : decode cL_act 360 = .ok (.iconst 1, 1) := by decide +kernel
theorem dL_act_361 : decode cL_act 361 = .ok (.iconst 0, 1) := by decide +kernel
theorem dL_act_362 : decode cL_act 362 = .ok (.invokestatic 69, 3) := by decide +kernel
theorem dL_act_365 : decode cL_act 365 = .ok (.ifCond .ne 8, 3) := by decide +kernel
theorem dL_act_368 : decode cL_act 368 = .ok (.iload 7, 2) := by decide +kernel
theorem dL_act_370 : decode cL_act 370 = .ok (.goto 5, 3) := by decide +kernel
theorem dL_act_373 : decode cL_act 373 = .ok (.ldc 76, 2) := by decide +kernel
theorem dL_act_375 : decode cL_act 375 = .ok (.ireturn, 1) := by decide +kernel
theorem dL_act_376 : decode cL_act 376 = .ok (.aload_n 0, 1) := by decide +kernel
theorem dL_act_377 : decode cL_act 377 = .ok (.iload_n 1, 1) := by decide +kernel
theorem dL_act_378 : decode cL_act 378 = .ok (.bipush 12, 2) := by decide +kernel
theorem dL_act_380 : decode cL_act 380 = .ok (.ishr, 1) := by decide +kernel
theorem dL_act_381 : decode cL_act 381 = .ok (.bipush 7, 2) := by decide +kernel
theorem dL_act_383 : decode cL_act 383 = .ok (.iand, 1) := by decide +kernel
theorem dL_act_384 : decode cL_act 384 = .ok (.ifCond .le 8, 3) := by decide +kernel
theorem dL_act_387 : decode cL_act 387 = .ok (.bipush 6, 2) := by decide +kernel
theorem dL_act_389 : decode cL_act 389 = .ok (.goto 5, 3) := by decide +kernel
theorem dL_act_392 : decode cL_act 392 = .ok (.bipush 7, 2) := by decide +kernel
theorem dL_act_394 : decode cL_act 394 = .ok (.iload_n 1, 1) := by decide +kernel
theorem dL_act_395 : decode cL_act 395 = .ok (.iconst 5, 1) := by decide +kernel
theorem dL_act_396 : decode cL_act 396 = .ok (.ishr, 1) := by decide +kernel
theorem dL_act_397 : decode cL_act 397 = .ok (.iload_n 2, 1) := by decide +kernel
theorem dL_act_398 : decode cL_act 398 = .ok (.ifCond .eq 8, 3) := by decide +kernel
theorem dL_act_401 : decode cL_act 401 = .ok (.bipush 44, 2) := by decide +kernel
theorem dL_act_403 : decode cL_act 403 = .ok (.goto 5, 3) := by decide +kernel
theorem dL_act_406 : decode cL_act 406 = .ok (.bipush 24, 2) := by decide +kernel
theorem dL_act_408 : decode cL_act 408 = .ok (.invokestatic 57, 3) := by decide +kernel
theorem dL_act_411 : decode cL_act 411 = .ok (.iload_n 1, 1) := by decide +kernel
theorem dL_act_412 : decode cL_act 412 = .ok (.bipush 9, 2) := by decide +kernel
theorem dL_act_414 : decode cL_act 414 = .ok (.ishr, 1) := by decide +kernel
theorem dL_act_415 : decode cL_act 415 = .ok (.iload_n 2, 1) := by decide +kernel
theorem dL_act_416 : decode cL_act 416 = .ok (.ifCond .eq 8, 3) := by decide +kernel
theorem dL_act_419 : decode cL_act 419 = .ok (.bipush 12, 2) := by decide +kernel
theorem dL_act_421 : decode cL_act 421 = .ok (.goto 5, 3) := by decide +kernel
theorem dL_act_424 : decode cL_act 424 = .ok (.bipush 10, 2) := by decide +kernel
theorem dL_act_426 : decode cL_act 426 = .ok (.invokestatic 57, 3) := by decide +kernel
theorem dL_act_429 : decode cL_act 429 = .ok (.iconst 0, 1) := by decide +kernel
theorem dL_act_430 : decode cL_act 430 = .ok (.invokestatic 69, 3) := by decide +kernel
theorem dL_act_433 : decode cL_act 433 = .ok (.ireturn, 1) := by decide +kernel
theorem dL_areAlike_0 : decode cL_areAlike 0 = .ok (.aload_n 0, 1) := by decide +kernel
theorem dL_areAlike_1 : decode cL_areAlike 1 = .ok (.invokevirtual 63, 3) := by decide +kernel
theorem dL_areAlike_4 : decode cL_areAlike 4 = .ok (.aload_n 1, 1) := by decide +kernel
theorem dL_areAlike_5 : decode cL_areAlike 5 = .ok (.invokevirtual 63, 3) := by decide +kernel
theorem dL_areAlike_8 : decode cL_areAlike 8 = .ok (.if_icmp .ne 29, 3) := by decide +kernel
theorem dL_areAlike_11 : decode cL_areAlike 11 = .ok (.aload_n 0, 1) := by decide +kernel
theorem dL_areAlike_12 : decode cL_areAlike 12 = .ok (.invokevirtual 73, 3) := by decide +kernel
theorem dL_areAlike_15 : decode cL_areAlike 15 = .ok (.aload_n 1, 1) := by decide +kernel
theorem dL_areAlike_16 : decode cL_areAlike 16 = .ok (.invokevirtual 73, 3) := by decide +kernel
theorem dL_areAlike_19 : decode cL_areAlike 19 = .ok (.if_icmp .ne 18, 3) := by decide +kernel
theorem dL_areAlike_22 : decode cL_areAlike 22 = .ok (.aload_n 0, 1) := by decide +kernel
theorem dL_areAlike_23 : decode cL_areAlike 23 = .ok (.invokevirtual 77, 3) := by decide +kernel
theorem dL_areAlike_26 : decode cL_areAlike 26 = .ok (.aload_n 1, 1) := by decide +kernel
theorem dL_areAlike_27 : decode cL_areAlike 27 = .ok (.invokevirtual 77, 3) := by decide +kernel
theorem dL_areAlike_30 : decode cL_areAlike 30 = .ok (.if_icmp .ne 7, 3) := by decide +kernel
theorem dL_areAlike_33 : decode cL_areAlike 33 = .ok (.iconst 1, 1) := by decide +kernel
theorem dL_areAlike_34 : decode cL_areAlike 34 = .ok (.goto 4, 3) := by decide +kernel
theorem dL_areAlike_37 : decode cL_areAlike 37 = .ok (.iconst 0, 1) := by decide +kernel
theorem dL_areAlike_38 : decode cL_areAlike 38 = .ok (.istore_n 2, 1) := by decide +kernel
theorem dL_areAlike_39 : decode cL_areAlike 39 = .ok (.iconst 0, 1) := by decide +kernel
theorem dL_areAlike_40 : decode cL_areAlike 40 = .ok (.istore_n 3, 1) := by decide +kernel
theorem dL_areAlike_41 : decode cL_areAlike 41 = .ok (.iload_n 3, 1) := by decide +kernel
theorem dL_areAlike_42 : decode cL_areAlike 42 = .ok (.aload_n 0, 1) := by decide +kernel
theorem dL_areAlike_43 : decode cL_areAlike 43 = .ok (.invokevirtual 63, 3) := by decide +kernel
theorem dL_areAlike_46 : decode cL_areAlike 46 = .ok (.if_icmp .ge 60, 3) := by decide +kernel
theorem dL_areAlike_49 : decode cL_areAlike 49 = .ok (.iload_n 2, 1) := by decide +kernel
theorem dL_areAlike_50 : decode cL_areAlike 50 = .ok (.ifCond .eq 56, 3) := by decide +kernel
theorem dL_areAlike_53 : decode cL_areAlike 53 = .ok (.aload_n 0, 1) := by decide +kernel
theorem dL_areAlike_54 : decode cL_areAlike 54 = .ok (.iload_n 3, 1) := by decide +kernel
theorem dL_areAlike_55 : decode cL_areAlike 55 = .ok (.invokevirtual 80, 3) := by decide +kernel
theorem dL_areAlike_58 : decode cL_areAlike 58 = .ok (.aload_n 1, 1) := by decide +kernel
theorem dL_areAlike_59 : decode cL_areAlike 59 = .ok (.iload_n 3, 1) := by decide +kernel
theorem dL_areAlike_60 : decode cL_areAlike 60 = .ok (.invokevirtual 80, 3) := by decide +kernel
theorem dL_areAlike_63 : decode cL_areAlike 63 = .ok (.if_icmp .ne 35, 3) := by decide +kernel
theorem dL_areAlike_66 : decode cL_areAlike 66 = .ok (.aload_n 0, 1) := by decide +kernel
theorem dL_areAlike_67 : decode cL_areAlike 67 = .ok (.iload_n 3, 1) := by decide +kernel
theorem dL_areAlike_68 : decode cL_areAlike 68 = .ok (.invokevirtual 83, 3) := by decide +kernel
theorem dL_areAlike_71 : decode cL_areAlike 71 = .ok (.aload_n 1, 1) := by decide +kernel
theorem dL_areAlike_72 : decode cL_areAlike 72 = .ok (.iload_n 3, 1) := by decide +kernel
theorem dL_areAlike_73 : decode cL_areAlike 73 = .ok (.invokevirtual 83, 3) := by decide +kernel
theorem dL_areAlike_76 : decode cL_areAlike 76 = .ok (.if_icmp .ne 22, 3) := by decide +kernel
theorem dL_areAlike_79 : decode cL_areAlike 79 = .ok (.aload_n 0, 1) := by decide +kernel
theorem dL_areAlike_80 : decode cL_areAlike 80 = .ok (.iload_n 3, 1) := by decide +kernel
theorem dL_areAlike_81 : decode cL_areAlike 81 = .ok (.iconst 0, 1) := by decide +kernel
theorem dL_areAlike_82 : decode cL_areAlike 82 = .ok (.invokevirtual 86, 3) := by decide +kernel
theorem dL_areAlike_85 : decode cL_areAlike 85 = .ok (.aload_n 1, 1) := by decide +kernel
theorem dL_areAlike_86 : decode cL_areAlike 86 = .ok (.iload_n 3, 1) := by decide +kernel
theorem dL_areAlike_87 : decode cL_areAlike 87 = .ok (.iconst 0, 1) := by decide +kernel
theorem dL_areAlike_88 : decode cL_areAlike 88 = .ok (.invokevirtual 86, 3) := by decide +kernel
theorem dL_areAlike_91 : decode cL_areAlike 91 = .ok (.if_icmp .ne 7, 3) := by decide +kernel
theorem dL_areAlike_94 : decode cL_areAlike 94 = .ok (.iconst 1, 1) := by decide +kernel
theorem dL_areAlike_95 : decode cL_areAlike 95 = .ok (.goto 4, 3) := by decide +kernel
theorem dL_areAlike_98 : decode cL_areAlike 98 = .ok (.iconst 0, 1) := by decide +kernel
theorem dL_areAlike_99 : decode cL_areAlike 99 = .ok (.istore_n 2, 1) := by decide +kernel
theorem dL_areAlike_100 : decode cL_areAlike 100 = .ok (.iinc 3 1, 3) := by decide +kernel
theorem dL_areAlike_103 : decode cL_areAlike 103 = .ok (.goto (-62), 3) := by decide +kernel
theorem dL_areAlike_106 : decode cL_areAlike 106 = .ok (.iconst 0, 1) := by decide +kernel
theorem dL_areAlike_107 : decode cL_areAlike 107 = .ok (.istore_n 3, 1) := by decide +kernel
theorem dL_areAlike_108 : decode cL_areAlike 108 = .ok (.iload_n 3, 1) := by decide +kernel
theorem dL_areAlike_109 : decode cL_areAlike 109 = .ok (.aload_n 0, 1) := by decide +kernel
theorem dL_areAlike_110 : decode cL_areAlike 110 = .ok (.invokevirtual 73, 3) := by decide +kernel
theorem dL_areAlike_113 : decode cL_areAlike 113 = .ok (.if_icmp .ge 45, 3) := by decide +kernel
theorem dL_areAlike_116 : decode cL_areAlike 116 = .ok (.iload_n 2, 1) := by decide +kernel
theorem dL_areAlike_117 : decode cL_areAlike 117 = .ok (.ifCond .eq 41, 3) := by decide +kernel
theorem dL_areAlike_120 : decode cL_areAlike 120 = .ok (.aload_n 0, 1) := by decide +kernel
theorem dL_areAlike_121 : decode cL_areAlike 121 = .ok (.iload_n 3, 1) := by decide +kernel
theorem dL_areAlike_122 : decode cL_areAlike 122 = .ok (.invokevirtual 90, 3) := by decide +kernel
theorem dL_areAlike_125 : decode cL_areAlike 125 = .ok (.aload_n 1, 1) := by decide +kernel
theorem dL_areAlike_126 : decode cL_areAlike 126 = .ok (.iload_n 3, 1) := by decide +kernel
theorem dL_areAlike_127 : decode cL_areAlike 127 = .ok (.invokevirtual 90, 3) := by decide +kernel
theorem dL_areAlike_130 : decode cL_areAlike 130 = .ok (.if_icmp .ne 20, 3) := by decide +kernel
theorem dL_areAlike_133 : decode cL_areAlike 133 = .ok (.aload_n 0, 1) := by decide +kernel
theorem dL_areAlike_134 : decode cL_areAlike 134 = .ok (.iload_n 3, 1) := by decide +kernel
theorem dL_areAlike_135 : decode cL_areAlike 135 = .ok (.invokevirtual 93, 3) := by decide +kernel
theorem dL_areAlike_138 : decode cL_areAlike 138 = .ok (.aload_n 1, 1) := by decide +kernel
theorem dL_areAlike_139 : decode cL_areAlike 139 = .ok (.iload_n 3, 1) := by decide +kernel
theorem dL_areAlike_140 : decode cL_areAlike 140 = .ok (.invokevirtual 93, 3) := by decide +kernel
theorem dL_areAlike_143 : decode cL_areAlike 143 = .ok (.if_icmp .ne 7, 3) := by decide +kernel
theorem dL_areAlike_146 : decode cL_areAlike 146 = .ok (.iconst 1, 1) := by decide +kernel
theorem dL_areAlike_147 : decode cL_areAlike 147 = .ok (.goto 4, 3) := by decide +kernel
theorem dL_areAlike_150 : decode cL_areAlike 150 = .ok (.iconst 0, 1) := by decide +kernel
theorem dL_areAlike_151 : decode cL_areAlike 151 = .ok (.istore_n 2, 1) := by decide +kernel
theorem dL_areAlike_152 : decode cL_areAlike 152 = .ok (.iinc 3 1, 3) := by decide +kernel
theorem dL_areAlike_155 : decode cL_areAlike 155 = .ok (.goto (-47), 3) := by decide +kernel
theorem dL_areAlike_158 : decode cL_areAlike 158 = .ok (.iconst 0, 1) := by decide +kernel
theorem dL_areAlike_159 : decode cL_areAlike 159 = .ok (.istore_n 3, 1) := by decide +kernel
theorem dL_areAlike_160 : decode cL_areAlike 160 = .ok (.iload_n 3, 1) := by decide +kernel
theorem dL_areAlike_161 : decode cL_areAlike 161 = .ok (.bipush 40, 2) := by decide +kernel
theorem dL_areAlike_163 : decode cL_areAlike 163 = .ok (.if_icmp .ge 32, 3) := by decide +kernel
theorem dL_areAlike_166 : decode cL_areAlike 166 = .ok (.iload_n 2, 1) := by decide +kernel
theorem dL_areAlike_167 : decode cL_areAlike 167 = .ok (.ifCond .eq 28, 3) := by decide +kernel
theorem dL_areAlike_170 : decode cL_areAlike 170 = .ok (.aload_n 0, 1) := by decide +kernel
theorem dL_areAlike_171 : decode cL_areAlike 171 = .ok (.iload_n 3, 1) := by decide +kernel
theorem dL_areAlike_172 : decode cL_areAlike 172 = .ok (.invokestatic 96, 3) := by decide +kernel
theorem dL_areAlike_175 : decode cL_areAlike 175 = .ok (.aload_n 1, 1) := by decide +kernel
theorem dL_areAlike_176 : decode cL_areAlike 176 = .ok (.iload_n 3, 1) := by decide +kernel
theorem dL_areAlike_177 : decode cL_areAlike 177 = .ok (.invokestatic 96, 3) := by decide +kernel
theorem dL_areAlike_180 : decode cL_areAlike 180 = .ok (.if_icmp .ne 7, 3) := by decide +kernel
theorem dL_areAlike_183 : decode cL_areAlike 183 = .ok (.iconst 1, 1) := by decide +kernel
theorem dL_areAlike_184 : decode cL_areAlike 184 = .ok (.goto 4, 3) := by decide +kernel
theorem dL_areAlike_187 : decode cL_areAlike 187 = .ok (.iconst 0, 1) := by decide +kernel
theorem dL_areAlike_188 : decode cL_areAlike 188 = .ok (.istore_n 2, 1) := by decide +kernel
theorem dL_areAlike_189 : decode cL_areAlike 189 = .ok (.iinc 3 1, 3) := by decide +kernel
theorem dL_areAlike_192 : decode cL_areAlike 192 = .ok (.goto (-32), 3) := by decide +kernel
theorem dL_areAlike_195 : decode cL_areAlike 195 = .ok (.iload_n 2, 1) := by decide +kernel
theorem dL_areAlike_196 : decode cL_areAlike 196 = .ok (.ireturn, 1) := by decide +kernel
theorem dL_areShownSo_0 : decode cL_areShownSo 0 = .ok (.aload_n 0, 1) := by decide +kernel
theorem dL_areShownSo_1 : decode cL_areShownSo 1 = .ok (.iload_n 1, 1) := by decide +kernel
theorem dL_areShownSo_2 : decode cL_areShownSo 2 = .ok (.invokevirtual 93, 3) := by decide +kernel
theorem dL_areShownSo_5 : decode cL_areShownSo 5 = .ok (.istore_n 2, 1) := by decide +kernel
theorem dL_areShownSo_6 : decode cL_areShownSo 6 = .ok (.aload_n 0, 1) := by decide +kernel
theorem dL_areShownSo_7 : decode cL_areShownSo 7 = .ok (.iload_n 1, 1) := by decide +kernel
theorem dL_areShownSo_8 : decode cL_areShownSo 8 = .ok (.invokevirtual 90, 3) := by decide +kernel
theorem dL_areShownSo_11 : decode cL_areShownSo 11 = .ok (.istore_n 3, 1) := by decide +kernel
theorem dL_areShownSo_12 : decode cL_areShownSo 12 = .ok (.aload_n 0, 1) := by decide +kernel
theorem dL_areShownSo_13 : decode cL_areShownSo 13 = .ok (.iload_n 1, 1) := by decide +kernel
theorem dL_areShownSo_14 : decode cL_areShownSo 14 = .ok (.invokevirtual 99, 3) := by decide +kernel
theorem dL_areShownSo_17 : decode cL_areShownSo 17 = .ok (.iload_n 2, 1) := by decide +kernel
theorem dL_areShownSo_18 : decode cL_areShownSo 18 = .ok (.if_icmp .ne 52, 3) := by decide +kernel
theorem dL_areShownSo_21 : decode cL_areShownSo 21 = .ok (.iload_n 3, 1) := by decide +kernel
theorem dL_areShownSo_22 : decode cL_areShownSo 22 = .ok (.ifCond .lt 48, 3) := by decide +kernel
theorem dL_areShownSo_25 : decode cL_areShownSo 25 = .ok (.iload_n 3, 1) := by decide +kernel
theorem dL_areShownSo_26 : decode cL_areShownSo 26 = .ok (.iconst 1, 1) := by decide +kernel
theorem dL_areShownSo_27 : decode cL_areShownSo 27 = .ok (.aload_n 0, 1) := by decide +kernel
theorem dL_areShownSo_28 : decode cL_areShownSo 28 = .ok (.invokevirtual 63, 3) := by decide +kernel
theorem dL_areShownSo_31 : decode cL_areShownSo 31 = .ok (.ishl, 1) := by decide +kernel
theorem dL_areShownSo_32 : decode cL_areShownSo 32 = .ok (.if_icmp .ge 38, 3) := by decide +kernel
theorem dL_areShownSo_35 : decode cL_areShownSo 35 = .ok (.iload_n 2, 1) := by decide +kernel
theorem dL_areShownSo_36 : decode cL_areShownSo 36 = .ok (.iconst 1, 1) := by decide +kernel
theorem dL_areShownSo_37 : decode cL_areShownSo 37 = .ok (.aload_n 0, 1) := by decide +kernel
theorem dL_areShownSo_38 : decode cL_areShownSo 38 = .ok (.invokevirtual 63, 3) := by decide +kernel
theorem dL_areShownSo_41 : decode cL_areShownSo 41 = .ok (.ishl, 1) := by decide +kernel
theorem dL_areShownSo_42 : decode cL_areShownSo 42 = .ok (.if_icmp .ge 28, 3) := by decide +kernel
theorem dL_areShownSo_45 : decode cL_areShownSo 45 = .ok (.iload_n 3, 1) := by decide +kernel
theorem dL_areShownSo_46 : decode cL_areShownSo 46 = .ok (.ifCond .ne 7, 3) := by decide +kernel
theorem dL_areShownSo_49 : decode cL_areShownSo 49 = .ok (.iconst 1, 1) := by decide +kernel
theorem dL_areShownSo_50 : decode cL_areShownSo 50 = .ok (.goto 4, 3) := by decide +kernel
theorem dL_areShownSo_53 : decode cL_areShownSo 53 = .ok (.iconst 0, 1) := by decide +kernel
theorem dL_areShownSo_54 : decode cL_areShownSo 54 = .ok (.iload_n 2, 1) := by decide +kernel
theorem dL_areShownSo_55 : decode cL_areShownSo 55 = .ok (.ifCond .ne 7, 3) := by decide +kernel
theorem dL_areShownSo_58 : decode cL_areShownSo 58 = .ok (.iconst 1, 1) := by decide +kernel
theorem dL_areShownSo_59 : decode cL_areShownSo 59 = .ok (.goto 4, 3) := by decide +kernel
theorem dL_areShownSo_62 : decode cL_areShownSo 62 = .ok (.iconst 0, 1) := by decide +kernel
theorem dL_areShownSo_63 : decode cL_areShownSo 63 = .ok (.if_icmp .ne 7, 3) := by decide +kernel
theorem dL_areShownSo_66 : decode cL_areShownSo 66 = .ok (.iconst 1, 1) := by decide +kernel
theorem dL_areShownSo_67 : decode cL_areShownSo 67 = .ok (.goto 4, 3) := by decide +kernel
theorem dL_areShownSo_70 : decode cL_areShownSo 70 = .ok (.iconst 0, 1) := by decide +kernel
theorem dL_areShownSo_71 : decode cL_areShownSo 71 = .ok (.istore 4, 2) := by decide +kernel
theorem dL_areShownSo_73 : decode cL_areShownSo 73 = .ok (.iconst 0, 1) := by decide +kernel
theorem dL_areShownSo_74 : decode cL_areShownSo 74 = .ok (.istore 5, 2) := by decide +kernel
theorem dL_areShownSo_76 : decode cL_areShownSo 76 = .ok (.iload 5, 2) := by decide +kernel
theorem dL_areShownSo_78 : decode cL_areShownSo 78 = .ok (.aload_n 0, 1) := by decide +kernel
theorem dL_areShownSo_79 : decode cL_areShownSo 79 = .ok (.invokevirtual 63, 3) := by decide +kernel
theorem dL_areShownSo_82 : decode cL_areShownSo 82 = .ok (.if_icmp .ge 253, 3) := by decide +kernel
theorem dL_areShownSo_85 : decode cL_areShownSo 85 = .ok (.iload 4, 2) := by decide +kernel
theorem dL_areShownSo_87 : decode cL_areShownSo 87 = .ok (.ifCond .eq 248, 3) := by decide +kernel
theorem dL_areShownSo_90 : decode cL_areShownSo 90 = .ok (.iload_n 2, 1) := by decide +kernel
theorem dL_areShownSo_91 : decode cL_areShownSo 91 = .ok (.iload 5, 2) := by decide +kernel
theorem dL_areShownSo_93 : decode cL_areShownSo 93 = .ok (.ishr, 1) := by decide +kernel
theorem dL_areShownSo_94 : decode cL_areShownSo 94 = .ok (.iconst 1, 1) := by decide +kernel
theorem dL_areShownSo_95 : decode cL_areShownSo 95 = .ok (.iand, 1) := by decide +kernel
theorem dL_areShownSo_96 : decode cL_areShownSo 96 = .ok (.iconst 1, 1) := by decide +kernel
theorem dL_areShownSo_97 : decode cL_areShownSo 97 = .ok (.if_icmp .ne 7, 3) := by decide +kernel
theorem dL_areShownSo_100 : decode cL_areShownSo 100 = .ok (.iconst 1, 1) := by decide +kernel
theorem dL_areShownSo_101 : decode cL_areShownSo 101 = .ok (.goto 4, 3) := by decide +kernel
theorem dL_areShownSo_104 : decode cL_areShownSo 104 = .ok (.iconst 0, 1) := by decide +kernel
theorem dL_areShownSo_105 : decode cL_areShownSo 105 = .ok (.istore 6, 2) := by decide +kernel
theorem dL_areShownSo_107 : decode cL_areShownSo 107 = .ok (.aload_n 0, 1) := by decide +kernel
theorem dL_areShownSo_108 : decode cL_areShownSo 108 = .ok (.iload_n 1, 1) := by decide +kernel
theorem dL_areShownSo_109 : decode cL_areShownSo 109 = .ok (.iload 5, 2) := by decide +kernel
theorem dL_areShownSo_111 : decode cL_areShownSo 111 = .ok (.invokevirtual 102, 3) := by decide +kernel
theorem dL_areShownSo_114 : decode cL_areShownSo 114 = .ok (.istore 7, 2) := by decide +kernel
theorem dL_areShownSo_116 : decode cL_areShownSo 116 = .ok (.iload_n 3, 1) := by decide +kernel
theorem dL_areShownSo_117 : decode cL_areShownSo 117 = .ok (.iload 5, 2) := by decide +kernel
theorem dL_areShownSo_119 : decode cL_areShownSo 119 = .ok (.ishr, 1) := by decide +kernel
theorem dL_areShownSo_120 : decode cL_areShownSo 120 = .ok (.iconst 1, 1) := by decide +kernel
theorem dL_areShownSo_121 : decode cL_areShownSo 121 = .ok (.iand, 1) := by decide +kernel
theorem dL_areShownSo_122 : decode cL_areShownSo 122 = .ok (.iconst 1, 1) := by decide +kernel
theorem dL_areShownSo_123 : decode cL_areShownSo 123 = .ok (.if_icmp .ne 7, 3) := by decide +kernel
theorem dL_areShownSo_126 : decode cL_areShownSo 126 = .ok (.iconst 1, 1) := by decide +kernel
theorem dL_areShownSo_127 : decode cL_areShownSo 127 = .ok (.goto 4, 3) := by decide +kernel
theorem dL_areShownSo_130 : decode cL_areShownSo 130 = .ok (.iconst 0, 1) := by decide +kernel
theorem dL_areShownSo_131 : decode cL_areShownSo 131 = .ok (.istore 8, 2) := by decide +kernel
theorem dL_areShownSo_133 : decode cL_areShownSo 133 = .ok (.iload 7, 2) := by decide +kernel
theorem dL_areShownSo_135 : decode cL_areShownSo 135 = .ok (.ifCond .lt 7, 3) := by decide +kernel
theorem dL_areShownSo_138 : decode cL_areShownSo 138 = .ok (.iconst 1, 1) := by decide +kernel
theorem dL_areShownSo_139 : decode cL_areShownSo 139 = .ok (.goto 4, 3) := by decide +kernel
theorem dL_areShownSo_142 : decode cL_areShownSo 142 = .ok (.iconst 0, 1) := by decide +kernel
theorem dL_areShownSo_143 : decode cL_areShownSo 143 = .ok (.iload 6, 2) := by decide +kernel
theorem dL_areShownSo_145 : decode cL_areShownSo 145 = .ok (.if_icmp .ne 87, 3) := by decide +kernel
theorem dL_areShownSo_148 : decode cL_areShownSo 148 = .ok (.iload 6, 2) := by decide +kernel
theorem dL_areShownSo_150 : decode cL_areShownSo 150 = .ok (.ifCond .eq 59, 3) := by decide +kernel
theorem dL_areShownSo_153 : decode cL_areShownSo 153 = .ok (.aload_n 0, 1) := by decide +kernel
theorem dL_areShownSo_154 : decode cL_areShownSo 154 = .ok (.iload 5, 2) := by decide +kernel
theorem dL_areShownSo_156 : decode cL_areShownSo 156 = .ok (.invokevirtual 80, 3) := by decide +kernel
theorem dL_areShownSo_159 : decode cL_areShownSo 159 = .ok (.iconst (-1), 1) := by decide +kernel
theorem dL_areShownSo_160 : decode cL_areShownSo 160 = .ok (.if_icmp .ne 72, 3) := by decide +kernel
theorem dL_areShownSo_163 : decode cL_areShownSo 163 = .ok (.aload_n 0, 1) := by decide +kernel
theorem dL_areShownSo_164 : decode cL_areShownSo 164 = .ok (.iload 5, 2) := by decide +kernel
theorem dL_areShownSo_166 : decode cL_areShownSo 166 = .ok (.invokevirtual 105, 3) := by decide +kernel
theorem dL_areShownSo_169 : decode cL_areShownSo 169 = .ok (.iload 5, 2) := by decide +kernel
theorem dL_areShownSo_171 : decode cL_areShownSo 171 = .ok (.if_icmp .ne 61, 3) := by decide +kernel
theorem dL_areShownSo_174 : decode cL_areShownSo 174 = .ok (.iload_n 3, 1) := by decide +kernel
theorem dL_areShownSo_175 : decode cL_areShownSo 175 = .ok (.iload 7, 2) := by decide +kernel
theorem dL_areShownSo_177 : decode cL_areShownSo 177 = .ok (.bipush 100, 2) := by decide +kernel
theorem dL_areShownSo_179 : decode cL_areShownSo 179 = .ok (.irem, 1) := by decide +kernel
theorem dL_areShownSo_180 : decode cL_areShownSo 180 = .ok (.ishr, 1) := by decide +kernel
theorem dL_areShownSo_181 : decode cL_areShownSo 181 = .ok (.iconst 1, 1) := by decide +kernel
theorem dL_areShownSo_182 : decode cL_areShownSo 182 = .ok (.iand, 1) := by decide +kernel
theorem dL_areShownSo_183 : decode cL_areShownSo 183 = .ok (.iconst 1, 1) := by decide +kernel
theorem dL_areShownSo_184 : decode cL_areShownSo 184 = .ok (.if_icmp .ne 48, 3) := by decide +kernel
theorem dL_areShownSo_187 : decode cL_areShownSo 187 = .ok (.iload 7, 2) := by decide +kernel
theorem dL_areShownSo_189 : decode cL_areShownSo 189 = .ok (.bipush 100, 2) := by decide +kernel
theorem dL_areShownSo_191 : decode cL_areShownSo 191 = .ok (.idiv, 1) := by decide +kernel
theorem dL_areShownSo_192 : decode cL_areShownSo 192 = .ok (.ifCond .gt 17, 3) := by decide +kernel
theorem dL_areShownSo_195 : decode cL_areShownSo 195 = .ok (.aload_n 0, 1) := by decide +kernel
theorem dL_areShownSo_196 : decode cL_areShownSo 196 = .ok (.iload 7, 2) := by decide +kernel
theorem dL_areShownSo_198 : decode cL_areShownSo 198 = .ok (.bipush 100, 2) := by decide +kernel
theorem dL_areShownSo_200 : decode cL_areShownSo 200 = .ok (.irem, 1) := by decide +kernel
theorem dL_areShownSo_201 : decode cL_areShownSo 201 = .ok (.invokevirtual 105, 3) := by decide +kernel
theorem dL_areShownSo_204 : decode cL_areShownSo 204 = .ok (.iload 5, 2) := by decide +kernel
theorem dL_areShownSo_206 : decode cL_areShownSo 206 = .ok (.if_icmp .ne 26, 3) := by decide +kernel
theorem dL_areShownSo_209 : decode cL_areShownSo 209 = .ok (.iload 8, 2) := by decide +kernel
theorem dL_areShownSo_211 : decode cL_areShownSo 211 = .ok (.ifCond .eq 17, 3) := by decide +kernel
theorem dL_areShownSo_214 : decode cL_areShownSo 214 = .ok (.iload_n 2, 1) := by decide +kernel
theorem dL_areShownSo_215 : decode cL_areShownSo 215 = .ok (.aload_n 0, 1) := by decide +kernel
theorem dL_areShownSo_216 : decode cL_areShownSo 216 = .ok (.iload 5, 2) := by decide +kernel
theorem dL_areShownSo_218 : decode cL_areShownSo 218 = .ok (.invokevirtual 105, 3) := by decide +kernel
theorem dL_areShownSo_221 : decode cL_areShownSo 221 = .ok (.ishr, 1) := by decide +kernel
theorem dL_areShownSo_222 : decode cL_areShownSo 222 = .ok (.iconst 1, 1) := by decide +kernel
theorem dL_areShownSo_223 : decode cL_areShownSo 223 = .ok (.iand, 1) := by decide +kernel
theorem dL_areShownSo_224 : decode cL_areShownSo 224 = .ok (.iconst 1, 1) := by decide +kernel
theorem dL_areShownSo_225 : decode cL_areShownSo 225 = .ok (.if_icmp .ne 7, 3) := by decide +kernel
theorem dL_areShownSo_228 : decode cL_areShownSo 228 = .ok (.iconst 1, 1) := by decide +kernel
theorem dL_areShownSo_229 : decode cL_areShownSo 229 = .ok (.goto 4, 3) := by decide +kernel
theorem dL_areShownSo_232 : decode cL_areShownSo 232 = .ok (.iconst 0, 1) := by decide +kernel
theorem dL_areShownSo_233 : decode cL_areShownSo 233 = .ok (.istore 4, 2) := by decide +kernel
theorem dL_areShownSo_235 : decode cL_areShownSo 235 = .ok (.iconst 0, 1) := by decide +kernel
theorem dL_areShownSo_236 : decode cL_areShownSo 236 = .ok (.istore 9, 2) := by decide +kernel
theorem dL_areShownSo_238 : decode cL_areShownSo 238 = .ok (.iload 9, 2) := by decide +kernel
theorem dL_areShownSo_240 : decode cL_areShownSo 240 = .ok (.aload_n 0, 1) := by decide +kernel
theorem dL_areShownSo_241 : decode cL_areShownSo 241 = .ok (.invokevirtual 63, 3) := by decide +kernel
theorem dL_areShownSo_244 : decode cL_areShownSo 244 = .ok (.if_icmp .ge 85, 3) := by decide +kernel
theorem dL_areShownSo_247 : decode cL_areShownSo 247 = .ok (.iload 4, 2) := by decide +kernel
theorem dL_areShownSo_249 : decode cL_areShownSo 249 = .ok (.ifCond .eq 80, 3) := by decide +kernel
theorem dL_areShownSo_252 : decode cL_areShownSo 252 = .ok (.iload 6, 2) := by decide +kernel
theorem dL_areShownSo_254 : decode cL_areShownSo 254 = .ok (.ifCond .eq 75, 3) := by decide +kernel
theorem dL_areShownSo_257 : decode cL_areShownSo 257 = .ok (.iconst 0, 1) := by decide +kernel
theorem dL_areShownSo_258 : decode cL_areShownSo 258 = .ok (.istore 10, 2) := by decide +kernel
theorem dL_areShownSo_260 : decode cL_areShownSo 260 = .ok (.iload 10, 2) := by decide +kernel
theorem dL_areShownSo_262 : decode cL_areShownSo 262 = .ok (.aload_n 0, 1) := by decide +kernel
theorem dL_areShownSo_263 : decode cL_areShownSo 263 = .ok (.invokevirtual 63, 3) := by decide +kernel
theorem dL_areShownSo_266 : decode cL_areShownSo 266 = .ok (.if_icmp .ge 57, 3) := by decide +kernel
theorem dL_areShownSo_269 : decode cL_areShownSo 269 = .ok (.iload 4, 2) := by decide +kernel
theorem dL_areShownSo_271 : decode cL_areShownSo 271 = .ok (.ifCond .eq 52, 3) := by decide +kernel
theorem dL_areShownSo_274 : decode cL_areShownSo 274 = .ok (.aload_n 0, 1) := by decide +kernel
theorem dL_areShownSo_275 : decode cL_areShownSo 275 = .ok (.iload 10, 2) := by decide +kernel
theorem dL_areShownSo_277 : decode cL_areShownSo 277 = .ok (.invokevirtual 105, 3) := by decide +kernel
theorem dL_areShownSo_280 : decode cL_areShownSo 280 = .ok (.iload 5, 2) := by decide +kernel
theorem dL_areShownSo_282 : decode cL_areShownSo 282 = .ok (.if_icmp .ne 28, 3) := by decide +kernel
theorem dL_areShownSo_285 : decode cL_areShownSo 285 = .ok (.aload_n 0, 1) := by decide +kernel
theorem dL_areShownSo_286 : decode cL_areShownSo 286 = .ok (.iload 10, 2) := by decide +kernel
theorem dL_areShownSo_288 : decode cL_areShownSo 288 = .ok (.iload 9, 2) := by decide +kernel
theorem dL_areShownSo_290 : decode cL_areShownSo 290 = .ok (.invokevirtual 108, 3) := by decide +kernel
theorem dL_areShownSo_293 : decode cL_areShownSo 293 = .ok (.ifCond .eq 17, 3) := by decide +kernel
theorem dL_areShownSo_296 : decode cL_areShownSo 296 = .ok (.iload_n 2, 1) := by decide +kernel
theorem dL_areShownSo_297 : decode cL_areShownSo 297 = .ok (.aload_n 0, 1) := by decide +kernel
theorem dL_areShownSo_298 : decode cL_areShownSo 298 = .ok (.iload 9, 2) := by decide +kernel
theorem dL_areShownSo_300 : decode cL_areShownSo 300 = .ok (.invokevirtual 105, 3) := by decide +kernel
theorem dL_areShownSo_303 : decode cL_areShownSo 303 = .ok (.ishr, 1) := by decide +kernel
theorem dL_areShownSo_304 : decode cL_areShownSo 304 = .ok (.iconst 1, 1) := by decide +kernel
theorem dL_areShownSo_305 : decode cL_areShownSo 305 = .ok (.iand, 1) := by decide +kernel
theorem dL_areShownSo_306 : decode cL_areShownSo 306 = .ok (.iconst 1, 1) := by decide +kernel
theorem dL_areShownSo_307 : decode cL_areShownSo 307 = .ok (.if_icmp .ne 7, 3) := by decide +kernel
theorem dL_areShownSo_310 : decode cL_areShownSo 310 = .ok (.iconst 1, 1) := by decide +kernel
theorem dL_areShownSo_311 : decode cL_areShownSo 311 = .ok (.goto 4, 3) := by decide +kernel
theorem dL_areShownSo_314 : decode cL_areShownSo 314 = .ok (.iconst 0, 1) := by decide +kernel
theorem dL_areShownSo_315 : decode cL_areShownSo 315 = .ok (.istore 4, 2) := by decide +kernel
theorem dL_areShownSo_317 : decode cL_areShownSo 317 = .ok (.iinc 10 1, 3) := by decide +kernel
theorem dL_areShownSo_320 : decode cL_areShownSo 320 = .ok (.goto (-60), 3) := by decide +kernel
theorem dL_areShownSo_323 : decode cL_areShownSo 323 = .ok (.iinc 9 1, 3) := by decide +kernel
theorem dL_areShownSo_326 : decode cL_areShownSo 326 = .ok (.goto (-88), 3) := by decide +kernel
theorem dL_areShownSo_329 : decode cL_areShownSo 329 = .ok (.iinc 5 1, 3) := by decide +kernel
theorem dL_areShownSo_332 : decode cL_areShownSo 332 = .ok (.goto (-256), 3) := by decide +kernel
theorem dL_areShownSo_335 : decode cL_areShownSo 335 = .ok (.iload 4, 2) := by decide +kernel
theorem dL_areShownSo_337 : decode cL_areShownSo 337 = .ok (.ireturn, 1) := by decide +kernel
theorem dL_areRulesSo_0 : decode cL_areRulesSo 0 = .ok (.iconst 1, 1) := by decide +kernel
theorem dL_areRulesSo_1 : decode cL_areRulesSo 1 = .ok (.istore_n 1, 1) := by decide +kernel
theorem dL_areRulesSo_2 : decode cL_areRulesSo 2 = .ok (.iconst 0, 1) := by decide +kernel
theorem dL_areRulesSo_3 : decode cL_areRulesSo 3 = .ok (.istore_n 2, 1) := by decide +kernel
theorem dL_areRulesSo_4 : decode cL_areRulesSo 4 = .ok (.iload_n 2, 1) := by decide +kernel
theorem dL_areRulesSo_5 : decode cL_areRulesSo 5 = .ok (.aload_n 0, 1) := by decide +kernel
theorem dL_areRulesSo_6 : decode cL_areRulesSo 6 = .ok (.invokevirtual 63, 3) := by decide +kernel
theorem dL_areRulesSo_9 : decode cL_areRulesSo 9 = .ok (.if_icmp .ge 119, 3) := by decide +kernel
theorem dL_areRulesSo_12 : decode cL_areRulesSo 12 = .ok (.iload_n 1, 1) := by decide +kernel
theorem dL_areRulesSo_13 : decode cL_areRulesSo 13 = .ok (.ifCond .eq 115, 3) := by decide +kernel
theorem dL_areRulesSo_16 : decode cL_areRulesSo 16 = .ok (.aload_n 0, 1) := by decide +kernel
theorem dL_areRulesSo_17 : decode cL_areRulesSo 17 = .ok (.iload_n 2, 1) := by decide +kernel
theorem dL_areRulesSo_18 : decode cL_areRulesSo 18 = .ok (.invokevirtual 80, 3) := by decide +kernel
theorem dL_areRulesSo_21 : decode cL_areRulesSo 21 = .ok (.istore_n 3, 1) := by decide +kernel
theorem dL_areRulesSo_22 : decode cL_areRulesSo 22 = .ok (.iconst 0, 1) := by decide +kernel
theorem dL_areRulesSo_23 : decode cL_areRulesSo 23 = .ok (.istore 4, 2) := by decide +kernel
theorem dL_areRulesSo_25 : decode cL_areRulesSo 25 = .ok (.iconst 0, 1) := by decide +kernel
theorem dL_areRulesSo_26 : decode cL_areRulesSo 26 = .ok (.istore 5, 2) := by decide +kernel
theorem dL_areRulesSo_28 : decode cL_areRulesSo 28 = .ok (.iload 5, 2) := by decide +kernel
theorem dL_areRulesSo_30 : decode cL_areRulesSo 30 = .ok (.aload_n 0, 1) := by decide +kernel
theorem dL_areRulesSo_31 : decode cL_areRulesSo 31 = .ok (.invokevirtual 73, 3) := by decide +kernel
theorem dL_areRulesSo_34 : decode cL_areRulesSo 34 = .ok (.if_icmp .ge 24, 3) := by decide +kernel
theorem dL_areRulesSo_37 : decode cL_areRulesSo 37 = .ok (.iload 4, 2) := by decide +kernel
theorem dL_areRulesSo_39 : decode cL_areRulesSo 39 = .ok (.aload_n 0, 1) := by decide +kernel
theorem dL_areRulesSo_40 : decode cL_areRulesSo 40 = .ok (.iload 5, 2) := by decide +kernel
theorem dL_areRulesSo_42 : decode cL_areRulesSo 42 = .ok (.invokevirtual 93, 3) := by decide +kernel
theorem dL_areRulesSo_45 : decode cL_areRulesSo 45 = .ok (.iload_n 2, 1) := by decide +kernel
theorem dL_areRulesSo_46 : decode cL_areRulesSo 46 = .ok (.ishr, 1) := by decide +kernel
theorem dL_areRulesSo_47 : decode cL_areRulesSo 47 = .ok (.iconst 1, 1) := by decide +kernel
theorem dL_areRulesSo_48 : decode cL_areRulesSo 48 = .ok (.iand, 1) := by decide +kernel
theorem dL_areRulesSo_49 : decode cL_areRulesSo 49 = .ok (.iadd, 1) := by decide +kernel
theorem dL_areRulesSo_50 : decode cL_areRulesSo 50 = .ok (.istore 4, 2) := by decide +kernel
theorem dL_areRulesSo_52 : decode cL_areRulesSo 52 = .ok (.iinc 5 1, 3) := by decide +kernel
theorem dL_areRulesSo_55 : decode cL_areRulesSo 55 = .ok (.goto (-27), 3) := by decide +kernel
theorem dL_areRulesSo_58 : decode cL_areRulesSo 58 = .ok (.iload_n 3, 1) := by decide +kernel
theorem dL_areRulesSo_59 : decode cL_areRulesSo 59 = .ok (.iload_n 2, 1) := by decide +kernel
theorem dL_areRulesSo_60 : decode cL_areRulesSo 60 = .ok (.if_icmp .eq 60, 3) := by decide +kernel
theorem dL_areRulesSo_63 : decode cL_areRulesSo 63 = .ok (.aload_n 0, 1) := by decide +kernel
theorem dL_areRulesSo_64 : decode cL_areRulesSo 64 = .ok (.iload_n 2, 1) := by decide +kernel
theorem dL_areRulesSo_65 : decode cL_areRulesSo 65 = .ok (.invokevirtual 105, 3) := by decide +kernel
theorem dL_areRulesSo_68 : decode cL_areRulesSo 68 = .ok (.iload_n 3, 1) := by decide +kernel
theorem dL_areRulesSo_69 : decode cL_areRulesSo 69 = .ok (.ifCond .ge 7, 3) := by decide +kernel
theorem dL_areRulesSo_72 : decode cL_areRulesSo 72 = .ok (.iload_n 2, 1) := by decide +kernel
theorem dL_areRulesSo_73 : decode cL_areRulesSo 73 = .ok (.goto 8, 3) := by decide +kernel
theorem dL_areRulesSo_76 : decode cL_areRulesSo 76 = .ok (.aload_n 0, 1) := by decide +kernel
theorem dL_areRulesSo_77 : decode cL_areRulesSo 77 = .ok (.iload_n 3, 1) := by decide +kernel
theorem dL_areRulesSo_78 : decode cL_areRulesSo 78 = .ok (.invokevirtual 105, 3) := by decide +kernel
theorem dL_areRulesSo_81 : decode cL_areRulesSo 81 = .ok (.if_icmp .ne 39, 3) := by decide +kernel
theorem dL_areRulesSo_84 : decode cL_areRulesSo 84 = .ok (.aload_n 0, 1) := by decide +kernel
theorem dL_areRulesSo_85 : decode cL_areRulesSo 85 = .ok (.aload_n 0, 1) := by decide +kernel
theorem dL_areRulesSo_86 : decode cL_areRulesSo 86 = .ok (.iload_n 2, 1) := by decide +kernel
theorem dL_areRulesSo_87 : decode cL_areRulesSo 87 = .ok (.invokevirtual 105, 3) := by decide +kernel
theorem dL_areRulesSo_90 : decode cL_areRulesSo 90 = .ok (.invokevirtual 80, 3) := by decide +kernel
theorem dL_areRulesSo_93 : decode cL_areRulesSo 93 = .ok (.iconst (-1), 1) := by decide +kernel
theorem dL_areRulesSo_94 : decode cL_areRulesSo 94 = .ok (.if_icmp .ne 26, 3) := by decide +kernel
theorem dL_areRulesSo_97 : decode cL_areRulesSo 97 = .ok (.aload_n 0, 1) := by decide +kernel
theorem dL_areRulesSo_98 : decode cL_areRulesSo 98 = .ok (.iload_n 2, 1) := by decide +kernel
theorem dL_areRulesSo_99 : decode cL_areRulesSo 99 = .ok (.invokevirtual 83, 3) := by decide +kernel
theorem dL_areRulesSo_102 : decode cL_areRulesSo 102 = .ok (.iload 4, 2) := by decide +kernel
theorem dL_areRulesSo_104 : decode cL_areRulesSo 104 = .ok (.if_icmp .ne 16, 3) := by decide +kernel
theorem dL_areRulesSo_107 : decode cL_areRulesSo 107 = .ok (.aload_n 0, 1) := by decide +kernel
theorem dL_areRulesSo_108 : decode cL_areRulesSo 108 = .ok (.iload_n 2, 1) := by decide +kernel
theorem dL_areRulesSo_109 : decode cL_areRulesSo 109 = .ok (.iload_n 2, 1) := by decide +kernel
theorem dL_areRulesSo_110 : decode cL_areRulesSo 110 = .ok (.invokevirtual 108, 3) := by decide +kernel
theorem dL_areRulesSo_113 : decode cL_areRulesSo 113 = .ok (.ifCond .ne 7, 3) := by decide +kernel
theorem dL_areRulesSo_116 : decode cL_areRulesSo 116 = .ok (.iconst 1, 1) := by decide +kernel
theorem dL_areRulesSo_117 : decode cL_areRulesSo 117 = .ok (.goto 4, 3) := by decide +kernel
theorem dL_areRulesSo_120 : decode cL_areRulesSo 120 = .ok (.iconst 0, 1) := by decide +kernel
theorem dL_areRulesSo_121 : decode cL_areRulesSo 121 = .ok (.istore_n 1, 1) := by decide +kernel
theorem dL_areRulesSo_122 : decode cL_areRulesSo 122 = .ok (.iinc 2 1, 3) := by decide +kernel
theorem dL_areRulesSo_125 : decode cL_areRulesSo 125 = .ok (.goto (-121), 3) := by decide +kernel
theorem dL_areRulesSo_128 : decode cL_areRulesSo 128 = .ok (.iconst 0, 1) := by decide +kernel
theorem dL_areRulesSo_129 : decode cL_areRulesSo 129 = .ok (.istore_n 2, 1) := by decide +kernel
theorem dL_areRulesSo_130 : decode cL_areRulesSo 130 = .ok (.iconst 0, 1) := by decide +kernel
theorem dL_areRulesSo_131 : decode cL_areRulesSo 131 = .ok (.istore_n 3, 1) := by decide +kernel
theorem dL_areRulesSo_132 : decode cL_areRulesSo 132 = .ok (.iload_n 3, 1) := by decide +kernel
theorem dL_areRulesSo_133 : decode cL_areRulesSo 133 = .ok (.bipush 40, 2) := by decide +kernel
theorem dL_areRulesSo_135 : decode cL_areRulesSo 135 = .ok (.if_icmp .ge 75, 3) := by decide +kernel
theorem dL_areRulesSo_138 : decode cL_areRulesSo 138 = .ok (.aload_n 0, 1) := by decide +kernel
theorem dL_areRulesSo_139 : decode cL_areRulesSo 139 = .ok (.iload_n 3, 1) := by decide +kernel
theorem dL_areRulesSo_140 : decode cL_areRulesSo 140 = .ok (.invokestatic 96, 3) := by decide +kernel
theorem dL_areRulesSo_143 : decode cL_areRulesSo 143 = .ok (.ldc 40, 2) := by decide +kernel
theorem dL_areRulesSo_145 : decode cL_areRulesSo 145 = .ok (.if_icmp .eq 65, 3) := by decide +kernel
theorem dL_areRulesSo_148 : decode cL_areRulesSo 148 = .ok (.iload_n 1, 1) := by decide +kernel
theorem dL_areRulesSo_149 : decode cL_areRulesSo 149 = .ok (.ifCond .eq 61, 3) := by decide +kernel
theorem dL_areRulesSo_152 : decode cL_areRulesSo 152 = .ok (.aload_n 0, 1) := by decide +kernel
theorem dL_areRulesSo_153 : decode cL_areRulesSo 153 = .ok (.iload_n 3, 1) := by decide +kernel
theorem dL_areRulesSo_154 : decode cL_areRulesSo 154 = .ok (.invokevirtual 111, 3) := by decide +kernel
theorem dL_areRulesSo_157 : decode cL_areRulesSo 157 = .ok (.istore 4, 2) := by decide +kernel
theorem dL_areRulesSo_159 : decode cL_areRulesSo 159 = .ok (.iload_n 2, 1) := by decide +kernel
theorem dL_areRulesSo_160 : decode cL_areRulesSo 160 = .ok (.iload 4, 2) := by decide +kernel
theorem dL_areRulesSo_162 : decode cL_areRulesSo 162 = .ok (.iadd, 1) := by decide +kernel
theorem dL_areRulesSo_163 : decode cL_areRulesSo 163 = .ok (.istore_n 2, 1) := by decide +kernel
theorem dL_areRulesSo_164 : decode cL_areRulesSo 164 = .ok (.iload 4, 2) := by decide +kernel
theorem dL_areRulesSo_166 : decode cL_areRulesSo 166 = .ok (.ifCond .lt 36, 3) := by decide +kernel
theorem dL_areRulesSo_169 : decode cL_areRulesSo 169 = .ok (.aload_n 0, 1) := by decide +kernel
theorem dL_areRulesSo_170 : decode cL_areRulesSo 170 = .ok (.iload_n 3, 1) := by decide +kernel
theorem dL_areRulesSo_171 : decode cL_areRulesSo 171 = .ok (.invokevirtual 114, 3) := by decide +kernel
theorem dL_areRulesSo_174 : decode cL_areRulesSo 174 = .ok (.ifCond .ne 8, 3) := by decide +kernel
theorem dL_areRulesSo_177 : decode cL_areRulesSo 177 = .ok (.iload 4, 2) := by decide +kernel
theorem dL_areRulesSo_179 : decode cL_areRulesSo 179 = .ok (.ifCond .ne 23, 3) := by decide +kernel
theorem dL_areRulesSo_182 : decode cL_areRulesSo 182 = .ok (.aload_n 0, 1) := by decide +kernel
theorem dL_areRulesSo_183 : decode cL_areRulesSo 183 = .ok (.iload_n 3, 1) := by decide +kernel
theorem dL_areRulesSo_184 : decode cL_areRulesSo 184 = .ok (.invokestatic 96, 3) := by decide +kernel
theorem dL_areRulesSo_187 : decode cL_areRulesSo 187 = .ok (.ifCond .eq 11, 3) := by decide +kernel
theorem dL_areRulesSo_190 : decode cL_areRulesSo 190 = .ok (.aload_n 0, 1) := by decide +kernel
theorem dL_areRulesSo_191 : decode cL_areRulesSo 191 = .ok (.iload_n 3, 1) := by decide +kernel
theorem dL_areRulesSo_192 : decode cL_areRulesSo 192 = .ok (.invokevirtual 114, 3) := by decide +kernel
theorem dL_areRulesSo_195 : decode cL_areRulesSo 195 = .ok (.ifCond .ne 7, 3) := by decide +kernel
theorem dL_areRulesSo_198 : decode cL_areRulesSo 198 = .ok (.iconst 1, 1) := by decide +kernel
theorem dL_areRulesSo_199 : decode cL_areRulesSo 199 = .ok (.goto 4, 3) := by decide +kernel
theorem dL_areRulesSo_202 : decode cL_areRulesSo 202 = .ok (.iconst 0, 1) := by decide +kernel
theorem dL_areRulesSo_203 : decode cL_areRulesSo 203 = .ok (.istore_n 1, 1) := by decide +kernel
theorem dL_areRulesSo_204 : decode cL_areRulesSo 204 = .ok (.iinc 3 1, 3) := by decide +kernel
theorem dL_areRulesSo_207 : decode cL_areRulesSo 207 = .ok (.goto (-75), 3) := by decide +kernel
theorem dL_areRulesSo_210 : decode cL_areRulesSo 210 = .ok (.iload_n 1, 1) := by decide +kernel
theorem dL_areRulesSo_211 : decode cL_areRulesSo 211 = .ok (.ifCond .eq 13, 3) := by decide +kernel
theorem dL_areRulesSo_214 : decode cL_areRulesSo 214 = .ok (.iload_n 2, 1) := by decide +kernel
theorem dL_areRulesSo_215 : decode cL_areRulesSo 215 = .ok (.iconst 2, 1) := by decide +kernel
theorem dL_areRulesSo_216 : decode cL_areRulesSo 216 = .ok (.irem, 1) := by decide +kernel
theorem dL_areRulesSo_217 : decode cL_areRulesSo 217 = .ok (.ifCond .ne 7, 3) := by decide +kernel
theorem dL_areRulesSo_220 : decode cL_areRulesSo 220 = .ok (.iconst 1, 1) := by decide +kernel
theorem dL_areRulesSo_221 : decode cL_areRulesSo 221 = .ok (.goto 4, 3) := by decide +kernel
theorem dL_areRulesSo_224 : decode cL_areRulesSo 224 = .ok (.iconst 0, 1) := by decide +kernel
theorem dL_areRulesSo_225 : decode cL_areRulesSo 225 = .ok (.ireturn, 1) := by decide +kernel
theorem dL_areCountedSo_0 : decode cL_areCountedSo 0 = .ok (.aload_n 0, 1) := by decide +kernel
theorem dL_areCountedSo_1 : decode cL_areCountedSo 1 = .ok (.iload_n 1, 1) := by decide +kernel
theorem dL_areCountedSo_2 : decode cL_areCountedSo 2 = .ok (.iload_n 2, 1) := by decide +kernel
theorem dL_areCountedSo_3 : decode cL_areCountedSo 3 = .ok (.iload_n 3, 1) := by decide +kernel
theorem dL_areCountedSo_4 : decode cL_areCountedSo 4 = .ok (.invokevirtual 118, 3) := by decide +kernel
theorem dL_areCountedSo_7 : decode cL_areCountedSo 7 = .ok (.istore 4, 2) := by decide +kernel
theorem dL_areCountedSo_9 : decode cL_areCountedSo 9 = .ok (.iconst (-1), 1) := by decide +kernel
theorem dL_areCountedSo_10 : decode cL_areCountedSo 10 = .ok (.istore 5, 2) := by decide +kernel
theorem dL_areCountedSo_12 : decode cL_areCountedSo 12 = .ok (.iload 4, 2) := by decide +kernel
theorem dL_areCountedSo_14 : decode cL_areCountedSo 14 = .ok (.ifCond .lt 43, 3) := by decide +kernel
theorem dL_areCountedSo_17 : decode cL_areCountedSo 17 = .ok (.iload 4, 2) := by decide +kernel
theorem dL_areCountedSo_19 : decode cL_areCountedSo 19 = .ok (.aload_n 0, 1) := by decide +kernel
theorem dL_areCountedSo_20 : decode cL_areCountedSo 20 = .ok (.invokevirtual 73, 3) := by decide +kernel
theorem dL_areCountedSo_23 : decode cL_areCountedSo 23 = .ok (.if_icmp .gt 34, 3) := by decide +kernel
theorem dL_areCountedSo_26 : decode cL_areCountedSo 26 = .ok (.aload_n 0, 1) := by decide +kernel
theorem dL_areCountedSo_27 : decode cL_areCountedSo 27 = .ok (.iload 4, 2) := by decide +kernel
theorem dL_areCountedSo_29 : decode cL_areCountedSo 29 = .ok (.iload_n 1, 1) := by decide +kernel
theorem dL_areCountedSo_30 : decode cL_areCountedSo 30 = .ok (.iload_n 2, 1) := by decide +kernel
theorem dL_areCountedSo_31 : decode cL_areCountedSo 31 = .ok (.iload_n 3, 1) := by decide +kernel
theorem dL_areCountedSo_32 : decode cL_areCountedSo 32 = .ok (.invokestatic 121, 3) := by decide +kernel
theorem dL_areCountedSo_35 : decode cL_areCountedSo 35 = .ok (.ldc 40, 2) := by decide +kernel
theorem dL_areCountedSo_37 : decode cL_areCountedSo 37 = .ok (.if_icmp .ne 20, 3) := by decide +kernel
theorem dL_areCountedSo_40 : decode cL_areCountedSo 40 = .ok (.aload_n 0, 1) := by decide +kernel
theorem dL_areCountedSo_41 : decode cL_areCountedSo 41 = .ok (.iconst (-1), 1) := by decide +kernel
theorem dL_areCountedSo_42 : decode cL_areCountedSo 42 = .ok (.iload_n 1, 1) := by decide +kernel
theorem dL_areCountedSo_43 : decode cL_areCountedSo 43 = .ok (.iload_n 2, 1) := by decide +kernel
theorem dL_areCountedSo_44 : decode cL_areCountedSo 44 = .ok (.iload_n 3, 1) := by decide +kernel
theorem dL_areCountedSo_45 : decode cL_areCountedSo 45 = .ok (.invokestatic 121, 3) := by decide +kernel
theorem dL_areCountedSo_48 : decode cL_areCountedSo 48 = .ok (.ldc 40, 2) := by decide +kernel
theorem dL_areCountedSo_50 : decode cL_areCountedSo 50 = .ok (.if_icmp .ne 7, 3) := by decide +kernel
theorem dL_areCountedSo_53 : decode cL_areCountedSo 53 = .ok (.iconst 1, 1) := by decide +kernel
theorem dL_areCountedSo_54 : decode cL_areCountedSo 54 = .ok (.goto 4, 3) := by decide +kernel
theorem dL_areCountedSo_57 : decode cL_areCountedSo 57 = .ok (.iconst 0, 1) := by decide +kernel
theorem dL_areCountedSo_58 : decode cL_areCountedSo 58 = .ok (.istore 6, 2) := by decide +kernel
theorem dL_areCountedSo_60 : decode cL_areCountedSo 60 = .ok (.iconst 0, 1) := by decide +kernel
theorem dL_areCountedSo_61 : decode cL_areCountedSo 61 = .ok (.istore 7, 2) := by decide +kernel
theorem dL_areCountedSo_63 : decode cL_areCountedSo 63 = .ok (.iload 7, 2) := by decide +kernel
theorem dL_areCountedSo_65 : decode cL_areCountedSo 65 = .ok (.iload 4, 2) := by decide +kernel
theorem dL_areCountedSo_67 : decode cL_areCountedSo 67 = .ok (.if_icmp .ge 136, 3) := by decide +kernel
theorem dL_areCountedSo_70 : decode cL_areCountedSo 70 = .ok (.iload 6, 2) := by decide +kernel
theorem dL_areCountedSo_72 : decode cL_areCountedSo 72 = .ok (.ifCond .eq 131, 3) := by decide +kernel
theorem dL_areCountedSo_75 : decode cL_areCountedSo 75 = .ok (.aload_n 0, 1) := by decide +kernel
theorem dL_areCountedSo_76 : decode cL_areCountedSo 76 = .ok (.iload 7, 2) := by decide +kernel
theorem dL_areCountedSo_78 : decode cL_areCountedSo 78 = .ok (.iload_n 1, 1) := by decide +kernel
theorem dL_areCountedSo_79 : decode cL_areCountedSo 79 = .ok (.iload_n 2, 1) := by decide +kernel
theorem dL_areCountedSo_80 : decode cL_areCountedSo 80 = .ok (.iload_n 3, 1) := by decide +kernel
theorem dL_areCountedSo_81 : decode cL_areCountedSo 81 = .ok (.invokestatic 121, 3) := by decide +kernel
theorem dL_areCountedSo_84 : decode cL_areCountedSo 84 = .ok (.istore 8, 2) := by decide +kernel
theorem dL_areCountedSo_86 : decode cL_areCountedSo 86 = .ok (.iload 8, 2) := by decide +kernel
theorem dL_areCountedSo_88 : decode cL_areCountedSo 88 = .ok (.iload 5, 2) := by decide +kernel
theorem dL_areCountedSo_90 : decode cL_areCountedSo 90 = .ok (.if_icmp .le 16, 3) := by decide +kernel
theorem dL_areCountedSo_93 : decode cL_areCountedSo 93 = .ok (.iload 8, 2) := by decide +kernel
theorem dL_areCountedSo_95 : decode cL_areCountedSo 95 = .ok (.aload_n 0, 1) := by decide +kernel
theorem dL_areCountedSo_96 : decode cL_areCountedSo 96 = .ok (.invokevirtual 73, 3) := by decide +kernel
theorem dL_areCountedSo_99 : decode cL_areCountedSo 99 = .ok (.if_icmp .ge 7, 3) := by decide +kernel
theorem dL_areCountedSo_102 : decode cL_areCountedSo 102 = .ok (.iconst 1, 1) := by decide +kernel
theorem dL_areCountedSo_103 : decode cL_areCountedSo 103 = .ok (.goto 4, 3) := by decide +kernel
theorem dL_areCountedSo_106 : decode cL_areCountedSo 106 = .ok (.iconst 0, 1) := by decide +kernel
theorem dL_areCountedSo_107 : decode cL_areCountedSo 107 = .ok (.istore 6, 2) := by decide +kernel
theorem dL_areCountedSo_109 : decode cL_areCountedSo 109 = .ok (.iload 8, 2) := by decide +kernel
theorem dL_areCountedSo_111 : decode cL_areCountedSo 111 = .ok (.istore 5, 2) := by decide +kernel
theorem dL_areCountedSo_113 : decode cL_areCountedSo 113 = .ok (.iconst 0, 1) := by decide +kernel
theorem dL_areCountedSo_114 : decode cL_areCountedSo 114 = .ok (.istore 9, 2) := by decide +kernel
theorem dL_areCountedSo_116 : decode cL_areCountedSo 116 = .ok (.iload 9, 2) := by decide +kernel
theorem dL_areCountedSo_118 : decode cL_areCountedSo 118 = .ok (.aload_n 0, 1) := by decide +kernel
theorem dL_areCountedSo_119 : decode cL_areCountedSo 119 = .ok (.invokevirtual 63, 3) := by decide +kernel
theorem dL_areCountedSo_122 : decode cL_areCountedSo 122 = .ok (.if_icmp .ge 75, 3) := by decide +kernel
theorem dL_areCountedSo_125 : decode cL_areCountedSo 125 = .ok (.iload 6, 2) := by decide +kernel
theorem dL_areCountedSo_127 : decode cL_areCountedSo 127 = .ok (.ifCond .eq 70, 3) := by decide +kernel
theorem dL_areCountedSo_130 : decode cL_areCountedSo 130 = .ok (.aload_n 0, 1) := by decide +kernel
theorem dL_areCountedSo_131 : decode cL_areCountedSo 131 = .ok (.iload 8, 2) := by decide +kernel
theorem dL_areCountedSo_133 : decode cL_areCountedSo 133 = .ok (.invokevirtual 93, 3) := by decide +kernel
theorem dL_areCountedSo_136 : decode cL_areCountedSo 136 = .ok (.aload_n 0, 1) := by decide +kernel
theorem dL_areCountedSo_137 : decode cL_areCountedSo 137 = .ok (.iload 9, 2) := by decide +kernel
theorem dL_areCountedSo_139 : decode cL_areCountedSo 139 = .ok (.invokevirtual 105, 3) := by decide +kernel
theorem dL_areCountedSo_142 : decode cL_areCountedSo 142 = .ok (.ishr, 1) := by decide +kernel
theorem dL_areCountedSo_143 : decode cL_areCountedSo 143 = .ok (.iconst 1, 1) := by decide +kernel
theorem dL_areCountedSo_144 : decode cL_areCountedSo 144 = .ok (.iand, 1) := by decide +kernel
theorem dL_areCountedSo_145 : decode cL_areCountedSo 145 = .ok (.iconst 1, 1) := by decide +kernel
theorem dL_areCountedSo_146 : decode cL_areCountedSo 146 = .ok (.if_icmp .ne 7, 3) := by decide +kernel
theorem dL_areCountedSo_149 : decode cL_areCountedSo 149 = .ok (.iconst 1, 1) := by decide +kernel
theorem dL_areCountedSo_150 : decode cL_areCountedSo 150 = .ok (.goto 4, 3) := by decide +kernel
theorem dL_areCountedSo_153 : decode cL_areCountedSo 153 = .ok (.iconst 0, 1) := by decide +kernel
theorem dL_areCountedSo_154 : decode cL_areCountedSo 154 = .ok (.istore 10, 2) := by decide +kernel
theorem dL_areCountedSo_156 : decode cL_areCountedSo 156 = .ok (.iload_n 1, 1) := by decide +kernel
theorem dL_areCountedSo_157 : decode cL_areCountedSo 157 = .ok (.iload 9, 2) := by decide +kernel
theorem dL_areCountedSo_159 : decode cL_areCountedSo 159 = .ok (.ishr, 1) := by decide +kernel
theorem dL_areCountedSo_160 : decode cL_areCountedSo 160 = .ok (.iconst 1, 1) := by decide +kernel
theorem dL_areCountedSo_161 : decode cL_areCountedSo 161 = .ok (.iand, 1) := by decide +kernel
theorem dL_areCountedSo_162 : decode cL_areCountedSo 162 = .ok (.ifCond .eq 8, 3) := by decide +kernel
theorem dL_areCountedSo_165 : decode cL_areCountedSo 165 = .ok (.iload 10, 2) := by decide +kernel
theorem dL_areCountedSo_167 : decode cL_areCountedSo 167 = .ok (.ifCond .eq 21, 3) := by decide +kernel
theorem dL_areCountedSo_170 : decode cL_areCountedSo 170 = .ok (.iload_n 3, 1) := by decide +kernel
theorem dL_areCountedSo_171 : decode cL_areCountedSo 171 = .ok (.iload 9, 2) := by decide +kernel
theorem dL_areCountedSo_173 : decode cL_areCountedSo 173 = .ok (.ishr, 1) := by decide +kernel
theorem dL_areCountedSo_174 : decode cL_areCountedSo 174 = .ok (.iconst 1, 1) := by decide +kernel
theorem dL_areCountedSo_175 : decode cL_areCountedSo 175 = .ok (.iand, 1) := by decide +kernel
theorem dL_areCountedSo_176 : decode cL_areCountedSo 176 = .ok (.ifCond .eq 8, 3) := by decide +kernel
theorem dL_areCountedSo_179 : decode cL_areCountedSo 179 = .ok (.iload 10, 2) := by decide +kernel
theorem dL_areCountedSo_181 : decode cL_areCountedSo 181 = .ok (.ifCond .ne 7, 3) := by decide +kernel
theorem dL_areCountedSo_184 : decode cL_areCountedSo 184 = .ok (.iconst 1, 1) := by decide +kernel
theorem dL_areCountedSo_185 : decode cL_areCountedSo 185 = .ok (.goto 4, 3) := by decide +kernel
theorem dL_areCountedSo_188 : decode cL_areCountedSo 188 = .ok (.iconst 0, 1) := by decide +kernel
theorem dL_areCountedSo_189 : decode cL_areCountedSo 189 = .ok (.istore 6, 2) := by decide +kernel
theorem dL_areCountedSo_191 : decode cL_areCountedSo 191 = .ok (.iinc 9 1, 3) := by decide +kernel
theorem dL_areCountedSo_194 : decode cL_areCountedSo 194 = .ok (.goto (-78), 3) := by decide +kernel
theorem dL_areCountedSo_197 : decode cL_areCountedSo 197 = .ok (.iinc 7 1, 3) := by decide +kernel
theorem dL_areCountedSo_200 : decode cL_areCountedSo 200 = .ok (.goto (-137), 3) := by decide +kernel
theorem dL_areCountedSo_203 : decode cL_areCountedSo 203 = .ok (.iload 6, 2) := by decide +kernel
theorem dL_areCountedSo_205 : decode cL_areCountedSo 205 = .ok (.ifCond .eq 41, 3) := by decide +kernel
theorem dL_areCountedSo_208 : decode cL_areCountedSo 208 = .ok (.aload_n 0, 1) := by decide +kernel
theorem dL_areCountedSo_209 : decode cL_areCountedSo 209 = .ok (.iload_n 1, 1) := by decide +kernel
theorem dL_areCountedSo_210 : decode cL_areCountedSo 210 = .ok (.iconst 0, 1) := by decide +kernel
theorem dL_areCountedSo_211 : decode cL_areCountedSo 211 = .ok (.iconst 0, 1) := by decide +kernel
theorem dL_areCountedSo_212 : decode cL_areCountedSo 212 = .ok (.invokevirtual 118, 3) := by decide +kernel
theorem dL_areCountedSo_215 : decode cL_areCountedSo 215 = .ok (.iload 4, 2) := by decide +kernel
theorem dL_areCountedSo_217 : decode cL_areCountedSo 217 = .ok (.if_icmp .lt 29, 3) := by decide +kernel
theorem dL_areCountedSo_220 : decode cL_areCountedSo 220 = .ok (.iload_n 3, 1) := by decide +kernel
theorem dL_areCountedSo_221 : decode cL_areCountedSo 221 = .ok (.ifCond .ne 21, 3) := by decide +kernel
theorem dL_areCountedSo_224 : decode cL_areCountedSo 224 = .ok (.iload_n 2, 1) := by decide +kernel
theorem dL_areCountedSo_225 : decode cL_areCountedSo 225 = .ok (.ifCond .ne 17, 3) := by decide +kernel
theorem dL_areCountedSo_228 : decode cL_areCountedSo 228 = .ok (.aload_n 0, 1) := by decide +kernel
theorem dL_areCountedSo_229 : decode cL_areCountedSo 229 = .ok (.iconst 0, 1) := by decide +kernel
theorem dL_areCountedSo_230 : decode cL_areCountedSo 230 = .ok (.iconst 0, 1) := by decide +kernel
theorem dL_areCountedSo_231 : decode cL_areCountedSo 231 = .ok (.iconst 0, 1) := by decide +kernel
theorem dL_areCountedSo_232 : decode cL_areCountedSo 232 = .ok (.invokevirtual 118, 3) := by decide +kernel
theorem dL_areCountedSo_235 : decode cL_areCountedSo 235 = .ok (.aload_n 0, 1) := by decide +kernel
theorem dL_areCountedSo_236 : decode cL_areCountedSo 236 = .ok (.invokevirtual 73, 3) := by decide +kernel
theorem dL_areCountedSo_239 : decode cL_areCountedSo 239 = .ok (.if_icmp .ne 7, 3) := by decide +kernel
theorem dL_areCountedSo_242 : decode cL_areCountedSo 242 = .ok (.iconst 1, 1) := by decide +kernel
theorem dL_areCountedSo_243 : decode cL_areCountedSo 243 = .ok (.goto 4, 3) := by decide +kernel
theorem dL_areCountedSo_246 : decode cL_areCountedSo 246 = .ok (.iconst 0, 1) := by decide +kernel
theorem dL_areCountedSo_247 : decode cL_areCountedSo 247 = .ok (.ireturn, 1) := by decide +kernel
theorem dL_isUndoneSo_0 : decode cL_isUndoneSo 0 = .ok (.aload_n 0, 1) := by decide +kernel
theorem dL_isUndoneSo_1 : decode cL_isUndoneSo 1 = .ok (.iload_n 2, 1) := by decide +kernel
theorem dL_isUndoneSo_2 : decode cL_isUndoneSo 2 = .ok (.invokevirtual 90, 3) := by decide +kernel
theorem dL_isUndoneSo_5 : decode cL_isUndoneSo 5 = .ok (.istore 5, 2) := by decide +kernel
theorem dL_isUndoneSo_7 : decode cL_isUndoneSo 7 = .ok (.aload_n 0, 1) := by decide +kernel
theorem dL_isUndoneSo_8 : decode cL_isUndoneSo 8 = .ok (.invokevirtual 77, 3) := by decide +kernel
theorem dL_isUndoneSo_11 : decode cL_isUndoneSo 11 = .ok (.istore 6, 2) := by decide +kernel
theorem dL_isUndoneSo_13 : decode cL_isUndoneSo 13 = .ok (.aload_n 0, 1) := by decide +kernel
theorem dL_isUndoneSo_14 : decode cL_isUndoneSo 14 = .ok (.iload_n 2, 1) := by decide +kernel
theorem dL_isUndoneSo_15 : decode cL_isUndoneSo 15 = .ok (.iload_n 3, 1) := by decide +kernel
theorem dL_isUndoneSo_16 : decode cL_isUndoneSo 16 = .ok (.invokevirtual 14, 3) := by decide +kernel
theorem dL_isUndoneSo_19 : decode cL_isUndoneSo 19 = .ok (.iload 5, 2) := by decide +kernel
theorem dL_isUndoneSo_21 : decode cL_isUndoneSo 21 = .ok (.iload_n 3, 1) := by decide +kernel
theorem dL_isUndoneSo_22 : decode cL_isUndoneSo 22 = .ok (.ishr, 1) := by decide +kernel
theorem dL_isUndoneSo_23 : decode cL_isUndoneSo 23 = .ok (.iconst 1, 1) := by decide +kernel
theorem dL_isUndoneSo_24 : decode cL_isUndoneSo 24 = .ok (.iand, 1) := by decide +kernel
theorem dL_isUndoneSo_25 : decode cL_isUndoneSo 25 = .ok (.ifCond .ne 7, 3) := by decide +kernel
theorem dL_isUndoneSo_28 : decode cL_isUndoneSo 28 = .ok (.iconst 1, 1) := by decide +kernel
theorem dL_isUndoneSo_29 : decode cL_isUndoneSo 29 = .ok (.goto 4, 3) := by decide +kernel
theorem dL_isUndoneSo_32 : decode cL_isUndoneSo 32 = .ok (.iconst 0, 1) := by decide +kernel
theorem dL_isUndoneSo_33 : decode cL_isUndoneSo 33 = .ok (.if_icmp .ne 30, 3) := by decide +kernel
theorem dL_isUndoneSo_36 : decode cL_isUndoneSo 36 = .ok (.aload_n 1, 1) := by decide +kernel
theorem dL_isUndoneSo_37 : decode cL_isUndoneSo 37 = .ok (.iload_n 2, 1) := by decide +kernel
theorem dL_isUndoneSo_38 : decode cL_isUndoneSo 38 = .ok (.iload_n 3, 1) := by decide +kernel
theorem dL_isUndoneSo_39 : decode cL_isUndoneSo 39 = .ok (.invokevirtual 14, 3) := by decide +kernel
theorem dL_isUndoneSo_42 : decode cL_isUndoneSo 42 = .ok (.iload 5, 2) := by decide +kernel
theorem dL_isUndoneSo_44 : decode cL_isUndoneSo 44 = .ok (.iload_n 3, 1) := by decide +kernel
theorem dL_isUndoneSo_45 : decode cL_isUndoneSo 45 = .ok (.ishr, 1) := by decide +kernel
theorem dL_isUndoneSo_46 : decode cL_isUndoneSo 46 = .ok (.iconst 1, 1) := by decide +kernel
theorem dL_isUndoneSo_47 : decode cL_isUndoneSo 47 = .ok (.iand, 1) := by decide +kernel
theorem dL_isUndoneSo_48 : decode cL_isUndoneSo 48 = .ok (.ifCond .ne 7, 3) := by decide +kernel
theorem dL_isUndoneSo_51 : decode cL_isUndoneSo 51 = .ok (.iconst 1, 1) := by decide +kernel
theorem dL_isUndoneSo_52 : decode cL_isUndoneSo 52 = .ok (.goto 4, 3) := by decide +kernel
theorem dL_isUndoneSo_55 : decode cL_isUndoneSo 55 = .ok (.iconst 0, 1) := by decide +kernel
theorem dL_isUndoneSo_56 : decode cL_isUndoneSo 56 = .ok (.if_icmp .ne 7, 3) := by decide +kernel
theorem dL_isUndoneSo_59 : decode cL_isUndoneSo 59 = .ok (.iconst 1, 1) := by decide +kernel
theorem dL_isUndoneSo_60 : decode cL_isUndoneSo 60 = .ok (.goto 4, 3) := by decide +kernel
theorem dL_isUndoneSo_63 : decode cL_isUndoneSo 63 = .ok (.iconst 0, 1) := by decide +kernel
theorem dL_isUndoneSo_64 : decode cL_isUndoneSo 64 = .ok (.istore 7, 2) := by decide +kernel
theorem dL_isUndoneSo_66 : decode cL_isUndoneSo 66 = .ok (.aload_n 0, 1) := by decide +kernel
theorem dL_isUndoneSo_67 : decode cL_isUndoneSo 67 = .ok (.iload 4, 2) := by decide +kernel
theorem dL_isUndoneSo_69 : decode cL_isUndoneSo 69 = .ok (.iload_n 3, 1) := by decide +kernel
theorem dL_isUndoneSo_70 : decode cL_isUndoneSo 70 = .ok (.iload_n 3, 1) := by decide +kernel
theorem dL_isUndoneSo_71 : decode cL_isUndoneSo 71 = .ok (.iconst 1, 1) := by decide +kernel
theorem dL_isUndoneSo_72 : decode cL_isUndoneSo 72 = .ok (.iadd, 1) := by decide +kernel
theorem dL_isUndoneSo_73 : decode cL_isUndoneSo 73 = .ok (.aload_n 0, 1) := by decide +kernel
theorem dL_isUndoneSo_74 : decode cL_isUndoneSo 74 = .ok (.invokevirtual 63, 3) := by decide +kernel
theorem dL_isUndoneSo_77 : decode cL_isUndoneSo 77 = .ok (.irem, 1) := by decide +kernel
theorem dL_isUndoneSo_78 : decode cL_isUndoneSo 78 = .ok (.invokevirtual 21, 3) := by decide +kernel
theorem dL_isUndoneSo_81 : decode cL_isUndoneSo 81 = .ok (.istore 8, 2) := by decide +kernel
theorem dL_isUndoneSo_83 : decode cL_isUndoneSo 83 = .ok (.iload 7, 2) := by decide +kernel
theorem dL_isUndoneSo_85 : decode cL_isUndoneSo 85 = .ok (.ifCond .eq 41, 3) := by decide +kernel
theorem dL_isUndoneSo_88 : decode cL_isUndoneSo 88 = .ok (.aload_n 1, 1) := by decide +kernel
theorem dL_isUndoneSo_89 : decode cL_isUndoneSo 89 = .ok (.iload 4, 2) := by decide +kernel
theorem dL_isUndoneSo_91 : decode cL_isUndoneSo 91 = .ok (.iload_n 3, 1) := by decide +kernel
theorem dL_isUndoneSo_92 : decode cL_isUndoneSo 92 = .ok (.iload_n 3, 1) := by decide +kernel
theorem dL_isUndoneSo_93 : decode cL_isUndoneSo 93 = .ok (.iconst 1, 1) := by decide +kernel
theorem dL_isUndoneSo_94 : decode cL_isUndoneSo 94 = .ok (.iadd, 1) := by decide +kernel
theorem dL_isUndoneSo_95 : decode cL_isUndoneSo 95 = .ok (.aload_n 0, 1) := by decide +kernel
theorem dL_isUndoneSo_96 : decode cL_isUndoneSo 96 = .ok (.invokevirtual 63, 3) := by decide +kernel
theorem dL_isUndoneSo_99 : decode cL_isUndoneSo 99 = .ok (.irem, 1) := by decide +kernel
theorem dL_isUndoneSo_100 : decode cL_isUndoneSo 100 = .ok (.invokevirtual 21, 3) := by decide +kernel
theorem dL_isUndoneSo_103 : decode cL_isUndoneSo 103 = .ok (.iload 8, 2) := by decide +kernel
theorem dL_isUndoneSo_105 : decode cL_isUndoneSo 105 = .ok (.if_icmp .ne 21, 3) := by decide +kernel
theorem dL_isUndoneSo_108 : decode cL_isUndoneSo 108 = .ok (.iload 8, 2) := by decide +kernel
theorem dL_isUndoneSo_110 : decode cL_isUndoneSo 110 = .ok (.ifCond .lt 16, 3) := by decide +kernel
theorem dL_isUndoneSo_113 : decode cL_isUndoneSo 113 = .ok (.iload 8, 2) := by decide +kernel
theorem dL_isUndoneSo_115 : decode cL_isUndoneSo 115 = .ok (.aload_n 0, 1) := by decide +kernel
theorem dL_isUndoneSo_116 : decode cL_isUndoneSo 116 = .ok (.invokevirtual 73, 3) := by decide +kernel
theorem dL_isUndoneSo_119 : decode cL_isUndoneSo 119 = .ok (.if_icmp .gt 7, 3) := by decide +kernel
theorem dL_isUndoneSo_122 : decode cL_isUndoneSo 122 = .ok (.iconst 1, 1) := by decide +kernel
theorem dL_isUndoneSo_123 : decode cL_isUndoneSo 123 = .ok (.goto 4, 3) := by decide +kernel
theorem dL_isUndoneSo_126 : decode cL_isUndoneSo 126 = .ok (.iconst 0, 1) := by decide +kernel
theorem dL_isUndoneSo_127 : decode cL_isUndoneSo 127 = .ok (.istore 7, 2) := by decide +kernel
theorem dL_isUndoneSo_129 : decode cL_isUndoneSo 129 = .ok (.iload 8, 2) := by decide +kernel
theorem dL_isUndoneSo_131 : decode cL_isUndoneSo 131 = .ok (.ifCond .le 33, 3) := by decide +kernel
theorem dL_isUndoneSo_134 : decode cL_isUndoneSo 134 = .ok (.iload 7, 2) := by decide +kernel
theorem dL_isUndoneSo_136 : decode cL_isUndoneSo 136 = .ok (.ifCond .eq 25, 3) := by decide +kernel
theorem dL_isUndoneSo_139 : decode cL_isUndoneSo 139 = .ok (.aload_n 0, 1) := by decide +kernel
theorem dL_isUndoneSo_140 : decode cL_isUndoneSo 140 = .ok (.invokevirtual 25, 3) := by decide +kernel
theorem dL_isUndoneSo_143 : decode cL_isUndoneSo 143 = .ok (.iload 8, 2) := by decide +kernel
theorem dL_isUndoneSo_145 : decode cL_isUndoneSo 145 = .ok (.if_icmp .ne 16, 3) := by decide +kernel
theorem dL_isUndoneSo_148 : decode cL_isUndoneSo 148 = .ok (.aload_n 1, 1) := by decide +kernel
theorem dL_isUndoneSo_149 : decode cL_isUndoneSo 149 = .ok (.invokevirtual 25, 3) := by decide +kernel
theorem dL_isUndoneSo_152 : decode cL_isUndoneSo 152 = .ok (.iload 8, 2) := by decide +kernel
theorem dL_isUndoneSo_154 : decode cL_isUndoneSo 154 = .ok (.if_icmp .ne 7, 3) := by decide +kernel
theorem dL_isUndoneSo_157 : decode cL_isUndoneSo 157 = .ok (.iconst 1, 1) := by decide +kernel
theorem dL_isUndoneSo_158 : decode cL_isUndoneSo 158 = .ok (.goto 4, 3) := by decide +kernel
theorem dL_isUndoneSo_161 : decode cL_isUndoneSo 161 = .ok (.iconst 0, 1) := by decide +kernel
theorem dL_isUndoneSo_162 : decode cL_isUndoneSo 162 = .ok (.istore 7, 2) := by decide +kernel
theorem dL_isUndoneSo_164 : decode cL_isUndoneSo 164 = .ok (.iload 7, 2) := by decide +kernel
theorem dL_isUndoneSo_166 : decode cL_isUndoneSo 166 = .ok (.ifCond .eq 21, 3) := by decide +kernel
theorem dL_isUndoneSo_169 : decode cL_isUndoneSo 169 = .ok (.aload_n 0, 1) := by decide +kernel
theorem dL_isUndoneSo_170 : decode cL_isUndoneSo 170 = .ok (.iload_n 2, 1) := by decide +kernel
theorem dL_isUndoneSo_171 : decode cL_isUndoneSo 171 = .ok (.invokevirtual 90, 3) := by decide +kernel
theorem dL_isUndoneSo_174 : decode cL_isUndoneSo 174 = .ok (.iload 5, 2) := by decide +kernel
theorem dL_isUndoneSo_176 : decode cL_isUndoneSo 176 = .ok (.iconst 1, 1) := by decide +kernel
theorem dL_isUndoneSo_177 : decode cL_isUndoneSo 177 = .ok (.iload_n 3, 1) := by decide +kernel
theorem dL_isUndoneSo_178 : decode cL_isUndoneSo 178 = .ok (.ishl, 1) := by decide +kernel
theorem dL_isUndoneSo_179 : decode cL_isUndoneSo 179 = .ok (.ior, 1) := by decide +kernel
theorem dL_isUndoneSo_180 : decode cL_isUndoneSo 180 = .ok (.if_icmp .ne 7, 3) := by decide +kernel
theorem dL_isUndoneSo_183 : decode cL_isUndoneSo 183 = .ok (.iconst 1, 1) := by decide +kernel
theorem dL_isUndoneSo_184 : decode cL_isUndoneSo 184 = .ok (.goto 4, 3) := by decide +kernel
theorem dL_isUndoneSo_187 : decode cL_isUndoneSo 187 = .ok (.iconst 0, 1) := by decide +kernel
theorem dL_isUndoneSo_188 : decode cL_isUndoneSo 188 = .ok (.istore 7, 2) := by decide +kernel
theorem dL_isUndoneSo_190 : decode cL_isUndoneSo 190 = .ok (.iload 5, 2) := by decide +kernel
theorem dL_isUndoneSo_192 : decode cL_isUndoneSo 192 = .ok (.iload_n 3, 1) := by decide +kernel
theorem dL_isUndoneSo_193 : decode cL_isUndoneSo 193 = .ok (.ishr, 1) := by decide +kernel
theorem dL_isUndoneSo_194 : decode cL_isUndoneSo 194 = .ok (.iconst 1, 1) := by decide +kernel
theorem dL_isUndoneSo_195 : decode cL_isUndoneSo 195 = .ok (.iand, 1) := by decide +kernel
theorem dL_isUndoneSo_196 : decode cL_isUndoneSo 196 = .ok (.ifCond .ne 31, 3) := by decide +kernel
theorem dL_isUndoneSo_199 : decode cL_isUndoneSo 199 = .ok (.iload 7, 2) := by decide +kernel
theorem dL_isUndoneSo_201 : decode cL_isUndoneSo 201 = .ok (.ifCond .eq 23, 3) := by decide +kernel
theorem dL_isUndoneSo_204 : decode cL_isUndoneSo 204 = .ok (.aload_n 0, 1) := by decide +kernel
theorem dL_isUndoneSo_205 : decode cL_isUndoneSo 205 = .ok (.invokevirtual 25, 3) := by decide +kernel
theorem dL_isUndoneSo_208 : decode cL_isUndoneSo 208 = .ok (.iconst 1, 1) := by decide +kernel
theorem dL_isUndoneSo_209 : decode cL_isUndoneSo 209 = .ok (.if_icmp .ne 15, 3) := by decide +kernel
theorem dL_isUndoneSo_212 : decode cL_isUndoneSo 212 = .ok (.aload_n 1, 1) := by decide +kernel
theorem dL_isUndoneSo_213 : decode cL_isUndoneSo 213 = .ok (.invokevirtual 25, 3) := by decide +kernel
theorem dL_isUndoneSo_216 : decode cL_isUndoneSo 216 = .ok (.iconst 1, 1) := by decide +kernel
theorem dL_isUndoneSo_217 : decode cL_isUndoneSo 217 = .ok (.if_icmp .ne 7, 3) := by decide +kernel
theorem dL_isUndoneSo_220 : decode cL_isUndoneSo 220 = .ok (.iconst 1, 1) := by decide +kernel
theorem dL_isUndoneSo_221 : decode cL_isUndoneSo 221 = .ok (.goto 4, 3) := by decide +kernel
theorem dL_isUndoneSo_224 : decode cL_isUndoneSo 224 = .ok (.iconst 0, 1) := by decide +kernel
theorem dL_isUndoneSo_225 : decode cL_isUndoneSo 225 = .ok (.istore 7, 2) := by decide +kernel
theorem dL_isUndoneSo_227 : decode cL_isUndoneSo 227 = .ok (.iload 7, 2) := by decide +kernel
theorem dL_isUndoneSo_229 : decode cL_isUndoneSo 229 = .ok (.ifCond .eq 37, 3) := by decide +kernel
theorem dL_isUndoneSo_232 : decode cL_isUndoneSo 232 = .ok (.aload_n 0, 1) := by decide +kernel
theorem dL_isUndoneSo_233 : decode cL_isUndoneSo 233 = .ok (.iload_n 2, 1) := by decide +kernel
theorem dL_isUndoneSo_234 : decode cL_isUndoneSo 234 = .ok (.invokevirtual 90, 3) := by decide +kernel
theorem dL_isUndoneSo_237 : decode cL_isUndoneSo 237 = .ok (.iload 5, 2) := by decide +kernel
theorem dL_isUndoneSo_239 : decode cL_isUndoneSo 239 = .ok (.if_icmp .ne 27, 3) := by decide +kernel
theorem dL_isUndoneSo_242 : decode cL_isUndoneSo 242 = .ok (.aload_n 0, 1) := by decide +kernel
theorem dL_isUndoneSo_243 : decode cL_isUndoneSo 243 = .ok (.invokevirtual 77, 3) := by decide +kernel
theorem dL_isUndoneSo_246 : decode cL_isUndoneSo 246 = .ok (.iload 6, 2) := by decide +kernel
theorem dL_isUndoneSo_248 : decode cL_isUndoneSo 248 = .ok (.if_icmp .gt 18, 3) := by decide +kernel
theorem dL_isUndoneSo_251 : decode cL_isUndoneSo 251 = .ok (.aload_n 0, 1) := by decide +kernel
theorem dL_isUndoneSo_252 : decode cL_isUndoneSo 252 = .ok (.invokevirtual 77, 3) := by decide +kernel
theorem dL_isUndoneSo_255 : decode cL_isUndoneSo 255 = .ok (.iload 6, 2) := by decide +kernel
theorem dL_isUndoneSo_257 : decode cL_isUndoneSo 257 = .ok (.iconst 2, 1) := by decide +kernel
theorem dL_isUndoneSo_258 : decode cL_isUndoneSo 258 = .ok (.isub, 1) := by decide +kernel
theorem dL_isUndoneSo_259 : decode cL_isUndoneSo 259 = .ok (.if_icmp .lt 7, 3) := by decide +kernel
theorem dL_isUndoneSo_262 : decode cL_isUndoneSo 262 = .ok (.iconst 1, 1) := by decide +kernel
theorem dL_isUndoneSo_263 : decode cL_isUndoneSo 263 = .ok (.goto 4, 3) := by decide +kernel
theorem dL_isUndoneSo_266 : decode cL_isUndoneSo 266 = .ok (.iconst 0, 1) := by decide +kernel
theorem dL_isUndoneSo_267 : decode cL_isUndoneSo 267 = .ok (.ireturn, 1) := by decide +kernel
theorem dL_law_0 : decode cL_law 0 = .ok (.new 9, 3) := by decide +kernel
theorem dL_law_3 : decode cL_law 3 = .ok (.dup, 1) := by decide +kernel
theorem dL_law_4 : decode cL_law 4 = .ok (.invokespecial 123, 3) := by decide +kernel
theorem dL_law_7 : decode cL_law 7 = .ok (.astore_n 1, 1) := by decide +kernel
theorem dL_law_8 : decode cL_law 8 = .ok (.new 9, 3) := by decide +kernel
theorem dL_law_11 : decode cL_law 11 = .ok (.dup, 1) := by decide +kernel
theorem dL_law_12 : decode cL_law 12 = .ok (.invokespecial 123, 3) := by decide +kernel
theorem dL_law_15 : decode cL_law 15 = .ok (.astore_n 2, 1) := by decide +kernel
theorem dL_law_16 : decode cL_law 16 = .ok (.iconst 1, 1) := by decide +kernel
theorem dL_law_17 : decode cL_law 17 = .ok (.istore_n 3, 1) := by decide +kernel
theorem dL_law_18 : decode cL_law 18 = .ok (.iconst 0, 1) := by decide +kernel
theorem dL_law_19 : decode cL_law 19 = .ok (.istore 4, 2) := by decide +kernel
theorem dL_law_21 : decode cL_law 21 = .ok (.iload 4, 2) := by decide +kernel
theorem dL_law_23 : decode cL_law 23 = .ok (.bipush 8, 2) := by decide +kernel
theorem dL_law_25 : decode cL_law 25 = .ok (.if_icmp .ge 107, 3) := by decide +kernel
theorem dL_law_28 : decode cL_law 28 = .ok (.iload_n 3, 1) := by decide +kernel
theorem dL_law_29 : decode cL_law 29 = .ok (.ifCond .eq 95, 3) := by decide +kernel
theorem dL_law_32 : decode cL_law 32 = .ok (.aload_n 1, 1) := by decide +kernel
theorem dL_law_33 : decode cL_law 33 = .ok (.bipush 65, 2) := by decide +kernel
theorem dL_law_35 : decode cL_law 35 = .ok (.iload 4, 2) := by decide +kernel
theorem dL_law_37 : decode cL_law 37 = .ok (.iadd, 1) := by decide +kernel
theorem dL_law_38 : decode cL_law 38 = .ok (.i2c, 1) := by decide +kernel
theorem dL_law_39 : decode cL_law 39 = .ok (.invokestatic 66, 3) := by decide +kernel
theorem dL_law_42 : decode cL_law 42 = .ok (.iconst 1, 1) := by decide +kernel
theorem dL_law_43 : decode cL_law 43 = .ok (.if_icmp .ne 81, 3) := by decide +kernel
theorem dL_law_46 : decode cL_law 46 = .ok (.aload_n 2, 1) := by decide +kernel
theorem dL_law_47 : decode cL_law 47 = .ok (.bipush 65, 2) := by decide +kernel
theorem dL_law_49 : decode cL_law 49 = .ok (.iload 4, 2) := by decide +kernel
theorem dL_law_51 : decode cL_law 51 = .ok (.iadd, 1) := by decide +kernel
theorem dL_law_52 : decode cL_law 52 = .ok (.i2c, 1) := by decide +kernel
theorem dL_law_53 : decode cL_law 53 = .ok (.invokestatic 66, 3) := by decide +kernel
theorem dL_law_56 : decode cL_law 56 = .ok (.iconst 1, 1) := by decide +kernel
theorem dL_law_57 : decode cL_law 57 = .ok (.if_icmp .ne 67, 3) := by decide +kernel
theorem dL_law_60 : decode cL_law 60 = .ok (.aload_n 1, 1) := by decide +kernel
theorem dL_law_61 : decode cL_law 61 = .ok (.bipush 8, 2) := by decide +kernel
theorem dL_law_63 : decode cL_law 63 = .ok (.iconst 0, 1) := by decide +kernel
theorem dL_law_64 : decode cL_law 64 = .ok (.iconst 0, 1) := by decide +kernel
theorem dL_law_65 : decode cL_law 65 = .ok (.iconst 0, 1) := by decide +kernel
theorem dL_law_66 : decode cL_law 66 = .ok (.invokestatic 69, 3) := by decide +kernel
theorem dL_law_69 : decode cL_law 69 = .ok (.iload 4, 2) := by decide +kernel
theorem dL_law_71 : decode cL_law 71 = .ok (.if_icmp .ne 53, 3) := by decide +kernel
theorem dL_law_74 : decode cL_law 74 = .ok (.aload_n 2, 1) := by decide +kernel
theorem dL_law_75 : decode cL_law 75 = .ok (.bipush 8, 2) := by decide +kernel
theorem dL_law_77 : decode cL_law 77 = .ok (.iconst 0, 1) := by decide +kernel
theorem dL_law_78 : decode cL_law 78 = .ok (.iconst 0, 1) := by decide +kernel
theorem dL_law_79 : decode cL_law 79 = .ok (.iconst 0, 1) := by decide +kernel
theorem dL_law_80 : decode cL_law 80 = .ok (.invokestatic 69, 3) := by decide +kernel
theorem dL_law_83 : decode cL_law 83 = .ok (.iload 4, 2) := by decide +kernel
theorem dL_law_85 : decode cL_law 85 = .ok (.if_icmp .ne 39, 3) := by decide +kernel
theorem dL_law_88 : decode cL_law 88 = .ok (.iload 4, 2) := by decide +kernel
theorem dL_law_90 : decode cL_law 90 = .ok (.iconst 2, 1) := by decide +kernel
theorem dL_law_91 : decode cL_law 91 = .ok (.if_icmp .gt 29, 3) := by decide +kernel
theorem dL_law_94 : decode cL_law 94 = .ok (.aload_n 1, 1) := by decide +kernel
theorem dL_law_95 : decode cL_law 95 = .ok (.iconst 0, 1) := by decide +kernel
theorem dL_law_96 : decode cL_law 96 = .ok (.iconst 0, 1) := by decide +kernel
theorem dL_law_97 : decode cL_law 97 = .ok (.iconst 0, 1) := by decide +kernel
theorem dL_law_98 : decode cL_law 98 = .ok (.iconst 0, 1) := by decide +kernel
theorem dL_law_99 : decode cL_law 99 = .ok (.invokestatic 69, 3) := by decide +kernel
theorem dL_law_102 : decode cL_law 102 = .ok (.iload 4, 2) := by decide +kernel
theorem dL_law_104 : decode cL_law 104 = .ok (.if_icmp .ne 20, 3) := by decide +kernel
theorem dL_law_107 : decode cL_law 107 = .ok (.aload_n 2, 1) := by decide +kernel
theorem dL_law_108 : decode cL_law 108 = .ok (.iconst 0, 1) := by decide +kernel
theorem dL_law_109 : decode cL_law 109 = .ok (.iconst 0, 1) := by decide +kernel
theorem dL_law_110 : decode cL_law 110 = .ok (.iconst 0, 1) := by decide +kernel
theorem dL_law_111 : decode cL_law 111 = .ok (.iconst 0, 1) := by decide +kernel
theorem dL_law_112 : decode cL_law 112 = .ok (.invokestatic 69, 3) := by decide +kernel
theorem dL_law_115 : decode cL_law 115 = .ok (.iload 4, 2) := by decide +kernel
theorem dL_law_117 : decode cL_law 117 = .ok (.if_icmp .ne 7, 3) := by decide +kernel
theorem dL_law_120 : decode cL_law 120 = .ok (.iconst 1, 1) := by decide +kernel
theorem dL_law_121 : decode cL_law 121 = .ok (.goto 4, 3) := by decide +kernel
theorem dL_law_124 : decode cL_law 124 = .ok (.iconst 0, 1) := by decide +kernel
theorem dL_law_125 : decode cL_law 125 = .ok (.istore_n 3, 1) := by decide +kernel
theorem dL_law_126 : decode cL_law 126 = .ok (.iinc 4 1, 3) := by decide +kernel
theorem dL_law_129 : decode cL_law 129 = .ok (.goto (-108), 3) := by decide +kernel
theorem dL_law_132 : decode cL_law 132 = .ok (.iconst 0, 1) := by decide +kernel
theorem dL_law_133 : decode cL_law 133 = .ok (.istore 4, 2) := by decide +kernel
theorem dL_law_135 : decode cL_law 135 = .ok (.iload 4, 2) := by decide +kernel
theorem dL_law_137 : decode cL_law 137 = .ok (.bipush 90, 2) := by decide +kernel
theorem dL_law_139 : decode cL_law 139 = .ok (.if_icmp .ge 251, 3) := by decide +kernel
theorem dL_law_142 : decode cL_law 142 = .ok (.iload_n 3, 1) := by decide +kernel
theorem dL_law_143 : decode cL_law 143 = .ok (.ifCond .eq 247, 3) := by decide +kernel
theorem dL_law_146 : decode cL_law 146 = .ok (.aload_n 0, 1) := by decide +kernel
theorem dL_law_147 : decode cL_law 147 = .ok (.iload 4, 2) := by decide +kernel
theorem dL_law_149 : decode cL_law 149 = .ok (.bipush 61, 2) := by decide +kernel
theorem dL_law_151 : decode cL_law 151 = .ok (.irem, 1) := by decide +kernel
theorem dL_law_152 : decode cL_law 152 = .ok (.invokestatic 124, 3) := by decide +kernel
theorem dL_law_155 : decode cL_law 155 = .ok (.sipush 1061, 3) := by decide +kernel
theorem dL_law_158 : decode cL_law 158 = .ok (.iload 4, 2) := by decide +kernel
theorem dL_law_160 : decode cL_law 160 = .ok (.bipush 61, 2) := by decide +kernel
theorem dL_law_162 : decode cL_law 162 = .ok (.idiv, 1) := by decide +kernel
theorem dL_law_163 : decode cL_law 163 = .ok (.imul, 1) := by decide +kernel
theorem dL_law_164 : decode cL_law 164 = .ok (.iadd, 1) := by decide +kernel
theorem dL_law_165 : decode cL_law 165 = .ok (.istore 5, 2) := by decide +kernel
theorem dL_law_167 : decode cL_law 167 = .ok (.aload_n 1, 1) := by decide +kernel
theorem dL_law_168 : decode cL_law 168 = .ok (.iload 5, 2) := by decide +kernel
theorem dL_law_170 : decode cL_law 170 = .ok (.invokestatic 128, 3) := by decide +kernel
theorem dL_law_173 : decode cL_law 173 = .ok (.istore 6, 2) := by decide +kernel
theorem dL_law_175 : decode cL_law 175 = .ok (.iload 6, 2) := by decide +kernel
theorem dL_law_177 : decode cL_law 177 = .ok (.ldc 76, 2) := by decide +kernel
theorem dL_law_179 : decode cL_law 179 = .ok (.if_icmp .eq 68, 3) := by decide +kernel
theorem dL_law_182 : decode cL_law 182 = .ok (.iload 6, 2) := by decide +kernel
theorem dL_law_184 : decode cL_law 184 = .ok (.ldc 40, 2) := by decide +kernel
theorem dL_law_186 : decode cL_law 186 = .ok (.if_icmp .eq 14, 3) := by decide +kernel
theorem dL_law_189 : decode cL_law 189 = .ok (.aload_n 2, 1) := by decide +kernel
theorem dL_law_190 : decode cL_law 190 = .ok (.iload 5, 2) := by decide +kernel
theorem dL_law_192 : decode cL_law 192 = .ok (.invokestatic 128, 3) := by decide +kernel
theorem dL_law_195 : decode cL_law 195 = .ok (.iload 6, 2) := by decide +kernel
theorem dL_law_197 : decode cL_law 197 = .ok (.if_icmp .ne 50, 3) := by decide +kernel
theorem dL_law_200 : decode cL_law 200 = .ok (.iload 4, 2) := by decide +kernel
theorem dL_law_202 : decode cL_law 202 = .ok (.bipush 6, 2) := by decide +kernel
theorem dL_law_204 : decode cL_law 204 = .ok (.irem, 1) := by decide +kernel
theorem dL_law_205 : decode cL_law 205 = .ok (.iconst 3, 1) := by decide +kernel
theorem dL_law_206 : decode cL_law 206 = .ok (.if_icmp .ne 11, 3) := by decide +kernel
theorem dL_law_209 : decode cL_law 209 = .ok (.aload_n 1, 1) := by decide +kernel
theorem dL_law_210 : decode cL_law 210 = .ok (.aload_n 2, 1) := by decide +kernel
theorem dL_law_211 : decode cL_law 211 = .ok (.invokestatic 131, 3) := by decide +kernel
theorem dL_law_214 : decode cL_law 214 = .ok (.ifCond .eq 33, 3) := by decide +kernel
theorem dL_law_217 : decode cL_law 217 = .ok (.iload 4, 2) := by decide +kernel
theorem dL_law_219 : decode cL_law 219 = .ok (.iconst 3, 1) := by decide +kernel
theorem dL_law_220 : decode cL_law 220 = .ok (.irem, 1) := by decide +kernel
theorem dL_law_221 : decode cL_law 221 = .ok (.iconst 1, 1) := by decide +kernel
theorem dL_law_222 : decode cL_law 222 = .ok (.if_icmp .ne 21, 3) := by decide +kernel
theorem dL_law_225 : decode cL_law 225 = .ok (.aload_n 1, 1) := by decide +kernel
theorem dL_law_226 : decode cL_law 226 = .ok (.iload 5, 2) := by decide +kernel
theorem dL_law_228 : decode cL_law 228 = .ok (.iconst 5, 1) := by decide +kernel
theorem dL_law_229 : decode cL_law 229 = .ok (.ishr, 1) := by decide +kernel
theorem dL_law_230 : decode cL_law 230 = .ok (.aload_n 1, 1) := by decide +kernel
theorem dL_law_231 : decode cL_law 231 = .ok (.invokevirtual 73, 3) := by decide +kernel
theorem dL_law_234 : decode cL_law 234 = .ok (.invokestatic 57, 3) := by decide +kernel
theorem dL_law_237 : decode cL_law 237 = .ok (.invokestatic 135, 3) := by decide +kernel
theorem dL_law_240 : decode cL_law 240 = .ok (.ifCond .eq 7, 3) := by decide +kernel
theorem dL_law_243 : decode cL_law 243 = .ok (.iconst 1, 1) := by decide +kernel
theorem dL_law_244 : decode cL_law 244 = .ok (.goto 4, 3) := by decide +kernel
theorem dL_law_247 : decode cL_law 247 = .ok (.iconst 0, 1) := by decide +kernel
theorem dL_law_248 : decode cL_law 248 = .ok (.istore_n 3, 1) := by decide +kernel
theorem dL_law_249 : decode cL_law 249 = .ok (.iload 4, 2) := by decide +kernel
theorem dL_law_251 : decode cL_law 251 = .ok (.bipush 9, 2) := by decide +kernel
theorem dL_law_253 : decode cL_law 253 = .ok (.irem, 1) := by decide +kernel
theorem dL_law_254 : decode cL_law 254 = .ok (.iconst 5, 1) := by decide +kernel
theorem dL_law_255 : decode cL_law 255 = .ok (.if_icmp .ne 69, 3) := by decide +kernel
theorem dL_law_258 : decode cL_law 258 = .ok (.iload_n 3, 1) := by decide +kernel
theorem dL_law_259 : decode cL_law 259 = .ok (.ifCond .eq 63, 3) := by decide +kernel
theorem dL_law_262 : decode cL_law 262 = .ok (.aload_n 1, 1) := by decide +kernel
theorem dL_law_263 : decode cL_law 263 = .ok (.invokestatic 139, 3) := by decide +kernel
theorem dL_law_266 : decode cL_law 266 = .ok (.ifCond .eq 56, 3) := by decide +kernel
theorem dL_law_269 : decode cL_law 269 = .ok (.aload_n 1, 1) := by decide +kernel
theorem dL_law_270 : decode cL_law 270 = .ok (.iconst 1, 1) := by decide +kernel
theorem dL_law_271 : decode cL_law 271 = .ok (.iload 5, 2) := by decide +kernel
theorem dL_law_273 : decode cL_law 273 = .ok (.iconst 4, 1) := by decide +kernel
theorem dL_law_274 : decode cL_law 274 = .ok (.ishr, 1) := by decide +kernel
theorem dL_law_275 : decode cL_law 275 = .ok (.bipush 8, 2) := by decide +kernel
theorem dL_law_277 : decode cL_law 277 = .ok (.invokestatic 57, 3) := by decide +kernel
theorem dL_law_280 : decode cL_law 280 = .ok (.ishl, 1) := by decide +kernel
theorem dL_law_281 : decode cL_law 281 = .ok (.iload 5, 2) := by decide +kernel
theorem dL_law_283 : decode cL_law 283 = .ok (.bipush 6, 2) := by decide +kernel
theorem dL_law_285 : decode cL_law 285 = .ok (.ishr, 1) := by decide +kernel
theorem dL_law_286 : decode cL_law 286 = .ok (.sipush 256, 3) := by decide +kernel
theorem dL_law_289 : decode cL_law 289 = .ok (.invokestatic 57, 3) := by decide +kernel
theorem dL_law_292 : decode cL_law 292 = .ok (.iload 5, 2) := by decide +kernel
theorem dL_law_294 : decode cL_law 294 = .ok (.bipush 9, 2) := by decide +kernel
theorem dL_law_296 : decode cL_law 296 = .ok (.ishr, 1) := by decide +kernel
theorem dL_law_297 : decode cL_law 297 = .ok (.iconst 1, 1) := by decide +kernel
theorem dL_law_298 : decode cL_law 298 = .ok (.iand, 1) := by decide +kernel
theorem dL_law_299 : decode cL_law 299 = .ok (.iconst 1, 1) := by decide +kernel
theorem dL_law_300 : decode cL_law 300 = .ok (.iload 5, 2) := by decide +kernel
theorem dL_law_302 : decode cL_law 302 = .ok (.bipush 10, 2) := by decide +kernel
theorem dL_law_304 : decode cL_law 304 = .ok (.ishr, 1) := by decide +kernel
theorem dL_law_305 : decode cL_law 305 = .ok (.bipush 8, 2) := by decide +kernel
theorem dL_law_307 : decode cL_law 307 = .ok (.invokestatic 57, 3) := by decide +kernel
theorem dL_law_310 : decode cL_law 310 = .ok (.ishl, 1) := by decide +kernel
theorem dL_law_311 : decode cL_law 311 = .ok (.imul, 1) := by decide +kernel
theorem dL_law_312 : decode cL_law 312 = .ok (.invokestatic 143, 3) := by decide +kernel
theorem dL_law_315 : decode cL_law 315 = .ok (.ifCond .eq 7, 3) := by decide +kernel
theorem dL_law_318 : decode cL_law 318 = .ok (.iconst 1, 1) := by decide +kernel
theorem dL_law_319 : decode cL_law 319 = .ok (.goto 4, 3) := by decide +kernel
theorem dL_law_322 : decode cL_law 322 = .ok (.iconst 0, 1) := by decide +kernel
theorem dL_law_323 : decode cL_law 323 = .ok (.istore_n 3, 1) := by decide +kernel
theorem dL_law_324 : decode cL_law 324 = .ok (.iload 4, 2) := by decide +kernel
theorem dL_law_326 : decode cL_law 326 = .ok (.bipush 10, 2) := by decide +kernel
theorem dL_law_328 : decode cL_law 328 = .ok (.irem, 1) := by decide +kernel
theorem dL_law_329 : decode cL_law 329 = .ok (.bipush 8, 2) := by decide +kernel
theorem dL_law_331 : decode cL_law 331 = .ok (.if_icmp .ne 53, 3) := by decide +kernel
theorem dL_law_334 : decode cL_law 334 = .ok (.iload_n 3, 1) := by decide +kernel
theorem dL_law_335 : decode cL_law 335 = .ok (.ifCond .eq 47, 3) := by decide +kernel
theorem dL_law_338 : decode cL_law 338 = .ok (.aload_n 1, 1) := by decide +kernel
theorem dL_law_339 : decode cL_law 339 = .ok (.aload_n 2, 1) := by decide +kernel
theorem dL_law_340 : decode cL_law 340 = .ok (.iload 5, 2) := by decide +kernel
theorem dL_law_342 : decode cL_law 342 = .ok (.iconst 5, 1) := by decide +kernel
theorem dL_law_343 : decode cL_law 343 = .ok (.ishr, 1) := by decide +kernel
theorem dL_law_344 : decode cL_law 344 = .ok (.aload_n 1, 1) := by decide +kernel
theorem dL_law_345 : decode cL_law 345 = .ok (.invokevirtual 73, 3) := by decide +kernel
theorem dL_law_348 : decode cL_law 348 = .ok (.invokestatic 57, 3) := by decide +kernel
theorem dL_law_351 : decode cL_law 351 = .ok (.iload 5, 2) := by decide +kernel
theorem dL_law_353 : decode cL_law 353 = .ok (.bipush 7, 2) := by decide +kernel
theorem dL_law_355 : decode cL_law 355 = .ok (.ishr, 1) := by decide +kernel
theorem dL_law_356 : decode cL_law 356 = .ok (.aload_n 1, 1) := by decide +kernel
theorem dL_law_357 : decode cL_law 357 = .ok (.invokevirtual 63, 3) := by decide +kernel
theorem dL_law_360 : decode cL_law 360 = .ok (.invokestatic 57, 3) := by decide +kernel
theorem dL_law_363 : decode cL_law 363 = .ok (.iload 5, 2) := by decide +kernel
theorem dL_law_365 : decode cL_law 365 = .ok (.bipush 9, 2) := by decide +kernel
theorem dL_law_367 : decode cL_law 367 = .ok (.ishr, 1) := by decide +kernel
theorem dL_law_368 : decode cL_law 368 = .ok (.iconst 3, 1) := by decide +kernel
theorem dL_law_369 : decode cL_law 369 = .ok (.invokestatic 57, 3) := by decide +kernel
theorem dL_law_372 : decode cL_law 372 = .ok (.invokestatic 147, 3) := by decide +kernel
theorem dL_law_375 : decode cL_law 375 = .ok (.ifCond .eq 7, 3) := by decide +kernel
theorem dL_law_378 : decode cL_law 378 = .ok (.iconst 1, 1) := by decide +kernel
theorem dL_law_379 : decode cL_law 379 = .ok (.goto 4, 3) := by decide +kernel
theorem dL_law_382 : decode cL_law 382 = .ok (.iconst 0, 1) := by decide +kernel
theorem dL_law_383 : decode cL_law 383 = .ok (.istore_n 3, 1) := by decide +kernel
theorem dL_law_384 : decode cL_law 384 = .ok (.iinc 4 1, 3) := by decide +kernel
theorem dL_law_387 : decode cL_law 387 = .ok (.goto (-252), 3) := by decide +kernel
theorem dL_law_390 : decode cL_law 390 = .ok (.iload_n 3, 1) := by decide +kernel
theorem dL_law_391 : decode cL_law 391 = .ok (.ifCond .eq 34, 3) := by decide +kernel
theorem dL_law_394 : decode cL_law 394 = .ok (.aload_n 1, 1) := by decide +kernel
theorem dL_law_395 : decode cL_law 395 = .ok (.aload_n 2, 1) := by decide +kernel
theorem dL_law_396 : decode cL_law 396 = .ok (.invokestatic 131, 3) := by decide +kernel
theorem dL_law_399 : decode cL_law 399 = .ok (.ifCond .eq 26, 3) := by decide +kernel
theorem dL_law_402 : decode cL_law 402 = .ok (.aload_n 1, 1) := by decide +kernel
theorem dL_law_403 : decode cL_law 403 = .ok (.invokestatic 139, 3) := by decide +kernel
theorem dL_law_406 : decode cL_law 406 = .ok (.ifCond .eq 19, 3) := by decide +kernel
theorem dL_law_409 : decode cL_law 409 = .ok (.aload_n 1, 1) := by decide +kernel
theorem dL_law_410 : decode cL_law 410 = .ok (.iconst 0, 1) := by decide +kernel
theorem dL_law_411 : decode cL_law 411 = .ok (.sipush 255, 3) := by decide +kernel
theorem dL_law_414 : decode cL_law 414 = .ok (.iconst 1, 1) := by decide +kernel
theorem dL_law_415 : decode cL_law 415 = .ok (.invokestatic 143, 3) := by decide +kernel
theorem dL_law_418 : decode cL_law 418 = .ok (.ifCond .eq 7, 3) := by decide +kernel
theorem dL_law_421 : decode cL_law 421 = .ok (.iconst 1, 1) := by decide +kernel
theorem dL_law_422 : decode cL_law 422 = .ok (.goto 4, 3) := by decide +kernel
theorem dL_law_425 : decode cL_law 425 = .ok (.iconst 0, 1) := by decide +kernel
theorem dL_law_426 : decode cL_law 426 = .ok (.ireturn, 1) := by decide +kernel
