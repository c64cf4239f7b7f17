theorem dL_cell_0 : decode cL_cell 0 = .ok (.iload_n 1, 1) := by decide +kernel
theorem dL_cell_1 : decode cL_cell 1 = .ok (.aload_n 0, 1) := by decide +kernel
theorem dL_cell_2 : decode cL_cell 2 = .ok (.arraylength, 1) := by decide +kernel
theorem dL_cell_3 : decode cL_cell 3 = .ok (.if_icmp .ge 9, 3) := by decide +kernel
theorem dL_cell_6 : decode cL_cell 6 = .ok (.aload_n 0, 1) := by decide +kernel
theorem dL_cell_7 : decode cL_cell 7 = .ok (.iload_n 1, 1) := by decide +kernel
theorem dL_cell_8 : decode cL_cell 8 = .ok (.iaload, 1) := by decide +kernel
theorem dL_cell_9 : decode cL_cell 9 = .ok (.goto 14, 3) := by decide +kernel
theorem dL_cell_12 : decode cL_cell 12 = .ok (.ldc 7, 2) := by decide +kernel
theorem dL_cell_14 : decode cL_cell 14 = .ok (.iload_n 1, 1) := by decide +kernel
theorem dL_cell_15 : decode cL_cell 15 = .ok (.sipush 383, 3) := by decide +kernel
theorem dL_cell_18 : decode cL_cell 18 = .ok (.iadd, 1) := by decide +kernel
theorem dL_cell_19 : decode cL_cell 19 = .ok (.imul, 1) := by decide +kernel
theorem dL_cell_20 : decode cL_cell 20 = .ok (.ldc 8, 2) := by decide +kernel
theorem dL_cell_22 : decode cL_cell 22 = .ok (.iadd, 1) := by decide +kernel
theorem dL_cell_23 : decode cL_cell 23 = .ok (.ldc 9, 2) := by decide +kernel
theorem dL_cell_25 : decode cL_cell 25 = .ok (.iand, 1) := by decide +kernel
theorem dL_cell_26 : decode cL_cell 26 = .ok (.ireturn, 1) := by decide +kernel
theorem dL_seen_0 : decode cL_seen 0 = .ok (.ldc2_w 10, 3) := by decide +kernel
theorem dL_seen_3 : decode cL_seen 3 = .ok (.lstore_n 1, 1) := by decide +kernel
theorem dL_seen_4 : decode cL_seen 4 = .ok (.iconst 0, 1) := by decide +kernel
theorem dL_seen_5 : decode cL_seen 5 = .ok (.istore_n 3, 1) := by decide +kernel
theorem dL_seen_6 : decode cL_seen 6 = .ok (.iload_n 3, 1) := by decide +kernel
theorem dL_seen_7 : decode cL_seen 7 = .ok (.bipush 19, 2) := by decide +kernel
theorem dL_seen_9 : decode cL_seen 9 = .ok (.if_icmp .ge 33, 3) := by decide +kernel
theorem dL_seen_12 : decode cL_seen 12 = .ok (.ldc2_w 12, 3) := by decide +kernel
theorem dL_seen_15 : decode cL_seen 15 = .ok (.ldc2_w 12, 3) := by decide +kernel
theorem dL_seen_18 : decode cL_seen 18 = .ok (.lload_n 1, 1) := by decide +kernel
theorem dL_seen_19 : decode cL_seen 19 = .ok (.lmul, 1) := by decide +kernel
theorem dL_seen_20 : decode cL_seen 20 = .ok (.aload_n 0, 1) := by decide +kernel
theorem dL_seen_21 : decode cL_seen 21 = .ok (.iload_n 3, 1) := by decide +kernel
theorem dL_seen_22 : decode cL_seen 22 = .ok (.invokevirtual 14, 3) := by decide +kernel
theorem dL_seen_25 : decode cL_seen 25 = .ok (.i2l, 1) := by decide +kernel
theorem dL_seen_26 : decode cL_seen 26 = .ok (.ladd, 1) := by decide +kernel
theorem dL_seen_27 : decode cL_seen 27 = .ok (.lmul, 1) := by decide +kernel
theorem dL_seen_28 : decode cL_seen 28 = .ok (.aload_n 0, 1) := by decide +kernel
theorem dL_seen_29 : decode cL_seen 29 = .ok (.iload_n 3, 1) := by decide +kernel
theorem dL_seen_30 : decode cL_seen 30 = .ok (.invokevirtual 20, 3) := by decide +kernel
theorem dL_seen_33 : decode cL_seen 33 = .ok (.i2l, 1) := by decide +kernel
theorem dL_seen_34 : decode cL_seen 34 = .ok (.ladd, 1) := by decide +kernel
theorem dL_seen_35 : decode cL_seen 35 = .ok (.lstore_n 1, 1) := by decide +kernel
theorem dL_seen_36 : decode cL_seen 36 = .ok (.iinc 3 1, 3) := by decide +kernel
theorem dL_seen_39 : decode cL_seen 39 = .ok (.goto (-33), 3) := by decide +kernel
theorem dL_seen_42 : decode cL_seen 42 = .ok (.iconst 0, 1) := by decide +kernel
theorem dL_seen_43 : decode cL_seen 43 = .ok (.istore_n 3, 1) := by decide +kernel
theorem dL_seen_44 : decode cL_seen 44 = .ok (.iload_n 3, 1) := by decide +kernel
theorem dL_seen_45 : decode cL_seen 45 = .ok (.bipush 48, 2) := by decide +kernel
theorem dL_seen_47 : decode cL_seen 47 = .ok (.if_icmp .ge 52, 3) := by decide +kernel
theorem dL_seen_50 : decode cL_seen 50 = .ok (.ldc2_w 12, 3) := by decide +kernel
theorem dL_seen_53 : decode cL_seen 53 = .ok (.ldc2_w 12, 3) := by decide +kernel
theorem dL_seen_56 : decode cL_seen 56 = .ok (.lload_n 1, 1) := by decide +kernel
theorem dL_seen_57 : decode cL_seen 57 = .ok (.lmul, 1) := by decide +kernel
theorem dL_seen_58 : decode cL_seen 58 = .ok (.aload_n 0, 1) := by decide +kernel
theorem dL_seen_59 : decode cL_seen 59 = .ok (.iload_n 3, 1) := by decide +kernel
theorem dL_seen_60 : decode cL_seen 60 = .ok (.iconst 4, 1) := by decide +kernel
theorem dL_seen_61 : decode cL_seen 61 = .ok (.idiv, 1) := by decide +kernel
theorem dL_seen_62 : decode cL_seen 62 = .ok (.iload_n 3, 1) := by decide +kernel
theorem dL_seen_63 : decode cL_seen 63 = .ok (.iconst 4, 1) := by decide +kernel
theorem dL_seen_64 : decode cL_seen 64 = .ok (.irem, 1) := by decide +kernel
theorem dL_seen_65 : decode cL_seen 65 = .ok (.invokevirtual 23, 3) := by decide +kernel
theorem dL_seen_68 : decode cL_seen 68 = .ok (.i2l, 1) := by decide +kernel
theorem dL_seen_69 : decode cL_seen 69 = .ok (.ladd, 1) := by decide +kernel
theorem dL_seen_70 : decode cL_seen 70 = .ok (.lmul, 1) := by decide +kernel
theorem dL_seen_71 : decode cL_seen 71 = .ok (.aload_n 0, 1) := by decide +kernel
theorem dL_seen_72 : decode cL_seen 72 = .ok (.iload_n 3, 1) := by decide +kernel
theorem dL_seen_73 : decode cL_seen 73 = .ok (.iconst 3, 1) := by decide +kernel
theorem dL_seen_74 : decode cL_seen 74 = .ok (.idiv, 1) := by decide +kernel
theorem dL_seen_75 : decode cL_seen 75 = .ok (.iload_n 3, 1) := by decide +kernel
theorem dL_seen_76 : decode cL_seen 76 = .ok (.iconst 3, 1) := by decide +kernel
theorem dL_seen_77 : decode cL_seen 77 = .ok (.irem, 1) := by decide +kernel
theorem dL_seen_78 : decode cL_seen 78 = .ok (.iconst 1, 1) := by decide +kernel
theorem dL_seen_79 : decode cL_seen 79 = .ok (.if_icmp .ne 7, 3) := by decide +kernel
theorem dL_seen_82 : decode cL_seen 82 = .ok (.iconst 3, 1) := by decide +kernel
theorem dL_seen_83 : decode cL_seen 83 = .ok (.goto 4, 3) := by decide +kernel
theorem dL_seen_86 : decode cL_seen 86 = .ok (.iconst 0, 1) := by decide +kernel
theorem dL_seen_87 : decode cL_seen 87 = .ok (.invokevirtual 27, 3) := by decide +kernel
theorem dL_seen_90 : decode cL_seen 90 = .ok (.i2l, 1) := by decide +kernel
theorem dL_seen_91 : decode cL_seen 91 = .ok (.ladd, 1) := by decide +kernel
theorem dL_seen_92 : decode cL_seen 92 = .ok (.lstore_n 1, 1) := by decide +kernel
theorem dL_seen_93 : decode cL_seen 93 = .ok (.iinc 3 1, 3) := by decide +kernel
theorem dL_seen_96 : decode cL_seen 96 = .ok (.goto (-52), 3) := by decide +kernel
theorem dL_seen_99 : decode cL_seen 99 = .ok (.iconst 0, 1) := by decide +kernel
theorem dL_seen_100 : decode cL_seen 100 = .ok (.istore_n 3, 1) := by decide +kernel
theorem dL_seen_101 : decode cL_seen 101 = .ok (.iload_n 3, 1) := by decide +kernel
theorem dL_seen_102 : decode cL_seen 102 = .ok (.sipush 210, 3) := by decide +kernel
theorem dL_seen_105 : decode cL_seen 105 = .ok (.if_icmp .ge 29, 3) := by decide +kernel
theorem dL_seen_108 : decode cL_seen 108 = .ok (.ldc2_w 12, 3) := by decide +kernel
theorem dL_seen_111 : decode cL_seen 111 = .ok (.lload_n 1, 1) := by decide +kernel
theorem dL_seen_112 : decode cL_seen 112 = .ok (.lmul, 1) := by decide +kernel
theorem dL_seen_113 : decode cL_seen 113 = .ok (.aload_n 0, 1) := by decide +kernel
theorem dL_seen_114 : decode cL_seen 114 = .ok (.iload_n 3, 1) := by decide +kernel
theorem dL_seen_115 : decode cL_seen 115 = .ok (.bipush 7, 2) := by decide +kernel
theorem dL_seen_117 : decode cL_seen 117 = .ok (.idiv, 1) := by decide +kernel
theorem dL_seen_118 : decode cL_seen 118 = .ok (.iload_n 3, 1) := by decide +kernel
theorem dL_seen_119 : decode cL_seen 119 = .ok (.bipush 7, 2) := by decide +kernel
theorem dL_seen_121 : decode cL_seen 121 = .ok (.irem, 1) := by decide +kernel
theorem dL_seen_122 : decode cL_seen 122 = .ok (.invokevirtual 30, 3) := by decide +kernel
theorem dL_seen_125 : decode cL_seen 125 = .ok (.i2l, 1) := by decide +kernel
theorem dL_seen_126 : decode cL_seen 126 = .ok (.ladd, 1) := by decide +kernel
theorem dL_seen_127 : decode cL_seen 127 = .ok (.lstore_n 1, 1) := by decide +kernel
theorem dL_seen_128 : decode cL_seen 128 = .ok (.iinc 3 1, 3) := by decide +kernel
theorem dL_seen_131 : decode cL_seen 131 = .ok (.goto (-30), 3) := by decide +kernel
theorem dL_seen_134 : decode cL_seen 134 = .ok (.lload_n 1, 1) := by decide +kernel
theorem dL_seen_135 : decode cL_seen 135 = .ok (.lreturn, 1) := by decide +kernel
theorem dL_areLots_0 : decode cL_areLots 0 = .ok (.aload_n 0, 1) := by decide +kernel
theorem dL_areLots_1 : decode cL_areLots 1 = .ok (.iconst 1, 1) := by decide +kernel
theorem dL_areLots_2 : decode cL_areLots 2 = .ok (.invokevirtual 14, 3) := by decide +kernel
theorem dL_areLots_5 : decode cL_areLots 5 = .ok (.istore_n 1, 1) := by decide +kernel
theorem dL_areLots_6 : decode cL_areLots 6 = .ok (.iconst 0, 1) := by decide +kernel
theorem dL_areLots_7 : decode cL_areLots 7 = .ok (.istore_n 2, 1) := by decide +kernel
theorem dL_areLots_8 : decode cL_areLots 8 = .ok (.iconst 0, 1) := by decide +kernel
theorem dL_areLots_9 : decode cL_areLots 9 = .ok (.istore_n 3, 1) := by decide +kernel
theorem dL_areLots_10 : decode cL_areLots 10 = .ok (.iconst 0, 1) := by decide +kernel
theorem dL_areLots_11 : decode cL_areLots 11 = .ok (.istore 4, 2) := by decide +kernel
theorem dL_areLots_13 : decode cL_areLots 13 = .ok (.iconst 0, 1) := by decide +kernel
theorem dL_areLots_14 : decode cL_areLots 14 = .ok (.istore 5, 2) := by decide +kernel
theorem dL_areLots_16 : decode cL_areLots 16 = .ok (.iconst 0, 1) := by decide +kernel
theorem dL_areLots_17 : decode cL_areLots 17 = .ok (.istore 6, 2) := by decide +kernel
theorem dL_areLots_19 : decode cL_areLots 19 = .ok (.iload_n 1, 1) := by decide +kernel
theorem dL_areLots_20 : decode cL_areLots 20 = .ok (.ifCond .lt 91, 3) := by decide +kernel
theorem dL_areLots_23 : decode cL_areLots 23 = .ok (.iload_n 1, 1) := by decide +kernel
theorem dL_areLots_24 : decode cL_areLots 24 = .ok (.bipush 12, 2) := by decide +kernel
theorem dL_areLots_26 : decode cL_areLots 26 = .ok (.if_icmp .gt 85, 3) := by decide +kernel
theorem dL_areLots_29 : decode cL_areLots 29 = .ok (.aload_n 0, 1) := by decide +kernel
theorem dL_areLots_30 : decode cL_areLots 30 = .ok (.iconst 3, 1) := by decide +kernel
theorem dL_areLots_31 : decode cL_areLots 31 = .ok (.invokevirtual 14, 3) := by decide +kernel
theorem dL_areLots_34 : decode cL_areLots 34 = .ok (.aload_n 0, 1) := by decide +kernel
theorem dL_areLots_35 : decode cL_areLots 35 = .ok (.iconst 4, 1) := by decide +kernel
theorem dL_areLots_36 : decode cL_areLots 36 = .ok (.invokevirtual 14, 3) := by decide +kernel
theorem dL_areLots_39 : decode cL_areLots 39 = .ok (.ior, 1) := by decide +kernel
theorem dL_areLots_40 : decode cL_areLots 40 = .ok (.aload_n 0, 1) := by decide +kernel
theorem dL_areLots_41 : decode cL_areLots 41 = .ok (.iconst 5, 1) := by decide +kernel
theorem dL_areLots_42 : decode cL_areLots 42 = .ok (.invokevirtual 14, 3) := by decide +kernel
theorem dL_areLots_45 : decode cL_areLots 45 = .ok (.ior, 1) := by decide +kernel
theorem dL_areLots_46 : decode cL_areLots 46 = .ok (.aload_n 0, 1) := by decide +kernel
theorem dL_areLots_47 : decode cL_areLots 47 = .ok (.bipush 6, 2) := by decide +kernel
theorem dL_areLots_49 : decode cL_areLots 49 = .ok (.invokevirtual 14, 3) := by decide +kernel
theorem dL_areLots_52 : decode cL_areLots 52 = .ok (.ior, 1) := by decide +kernel
theorem dL_areLots_53 : decode cL_areLots 53 = .ok (.aload_n 0, 1) := by decide +kernel
theorem dL_areLots_54 : decode cL_areLots 54 = .ok (.bipush 7, 2) := by decide +kernel
theorem dL_areLots_56 : decode cL_areLots 56 = .ok (.invokevirtual 14, 3) := by decide +kernel
theorem dL_areLots_59 : decode cL_areLots 59 = .ok (.ior, 1) := by decide +kernel
theorem dL_areLots_60 : decode cL_areLots 60 = .ok (.iconst 1, 1) := by decide +kernel
theorem dL_areLots_61 : decode cL_areLots 61 = .ok (.iload_n 1, 1) := by decide +kernel
theorem dL_areLots_62 : decode cL_areLots 62 = .ok (.ishl, 1) := by decide +kernel
theorem dL_areLots_63 : decode cL_areLots 63 = .ok (.iconst 1, 1) := by decide +kernel
theorem dL_areLots_64 : decode cL_areLots 64 = .ok (.isub, 1) := by decide +kernel
theorem dL_areLots_65 : decode cL_areLots 65 = .ok (.if_icmp .ne 46, 3) := by decide +kernel
theorem dL_areLots_68 : decode cL_areLots 68 = .ok (.aload_n 0, 1) := by decide +kernel
theorem dL_areLots_69 : decode cL_areLots 69 = .ok (.iconst 3, 1) := by decide +kernel
theorem dL_areLots_70 : decode cL_areLots 70 = .ok (.invokevirtual 14, 3) := by decide +kernel
theorem dL_areLots_73 : decode cL_areLots 73 = .ok (.aload_n 0, 1) := by decide +kernel
theorem dL_areLots_74 : decode cL_areLots 74 = .ok (.iconst 4, 1) := by decide +kernel
theorem dL_areLots_75 : decode cL_areLots 75 = .ok (.invokevirtual 14, 3) := by decide +kernel
theorem dL_areLots_78 : decode cL_areLots 78 = .ok (.iadd, 1) := by decide +kernel
theorem dL_areLots_79 : decode cL_areLots 79 = .ok (.aload_n 0, 1) := by decide +kernel
theorem dL_areLots_80 : decode cL_areLots 80 = .ok (.iconst 5, 1) := by decide +kernel
theorem dL_areLots_81 : decode cL_areLots 81 = .ok (.invokevirtual 14, 3) := by decide +kernel
theorem dL_areLots_84 : decode cL_areLots 84 = .ok (.iadd, 1) := by decide +kernel
theorem dL_areLots_85 : decode cL_areLots 85 = .ok (.aload_n 0, 1) := by decide +kernel
theorem dL_areLots_86 : decode cL_areLots 86 = .ok (.bipush 6, 2) := by decide +kernel
theorem dL_areLots_88 : decode cL_areLots 88 = .ok (.invokevirtual 14, 3) := by decide +kernel
theorem dL_areLots_91 : decode cL_areLots 91 = .ok (.iadd, 1) := by decide +kernel
theorem dL_areLots_92 : decode cL_areLots 92 = .ok (.aload_n 0, 1) := by decide +kernel
theorem dL_areLots_93 : decode cL_areLots 93 = .ok (.bipush 7, 2) := by decide +kernel
theorem dL_areLots_95 : decode cL_areLots 95 = .ok (.invokevirtual 14, 3) := by decide +kernel
theorem dL_areLots_98 : decode cL_areLots 98 = .ok (.iadd, 1) := by decide +kernel
theorem dL_areLots_99 : decode cL_areLots 99 = .ok (.iconst 1, 1) := by decide +kernel
theorem dL_areLots_100 : decode cL_areLots 100 = .ok (.iload_n 1, 1) := by decide +kernel
theorem dL_areLots_101 : decode cL_areLots 101 = .ok (.ishl, 1) := by decide +kernel
theorem dL_areLots_102 : decode cL_areLots 102 = .ok (.iconst 1, 1) := by decide +kernel
theorem dL_areLots_103 : decode cL_areLots 103 = .ok (.isub, 1) := by decide +kernel
theorem dL_areLots_104 : decode cL_areLots 104 = .ok (.if_icmp .ne 7, 3) := by decide +kernel
theorem dL_areLots_107 : decode cL_areLots 107 = .ok (.iconst 1, 1) := by decide +kernel
theorem dL_areLots_108 : decode cL_areLots 108 = .ok (.goto 4, 3) := by decide +kernel
theorem dL_areLots_111 : decode cL_areLots 111 = .ok (.iconst 0, 1) := by decide +kernel
theorem dL_areLots_112 : decode cL_areLots 112 = .ok (.istore 7, 2) := by decide +kernel
theorem dL_areLots_114 : decode cL_areLots 114 = .ok (.iconst 0, 1) := by decide +kernel
theorem dL_areLots_115 : decode cL_areLots 115 = .ok (.istore 8, 2) := by decide +kernel
theorem dL_areLots_117 : decode cL_areLots 117 = .ok (.iload 8, 2) := by decide +kernel
theorem dL_areLots_119 : decode cL_areLots 119 = .ok (.iload_n 1, 1) := by decide +kernel
theorem dL_areLots_120 : decode cL_areLots 120 = .ok (.if_icmp .ge 425, 3) := by decide +kernel
theorem dL_areLots_123 : decode cL_areLots 123 = .ok (.iload 7, 2) := by decide +kernel
theorem dL_areLots_125 : decode cL_areLots 125 = .ok (.ifCond .eq 420, 3) := by decide +kernel
theorem dL_areLots_128 : decode cL_areLots 128 = .ok (.aload_n 0, 1) := by decide +kernel
theorem dL_areLots_129 : decode cL_areLots 129 = .ok (.iload 8, 2) := by decide +kernel
theorem dL_areLots_131 : decode cL_areLots 131 = .ok (.iconst 0, 1) := by decide +kernel
theorem dL_areLots_132 : decode cL_areLots 132 = .ok (.invokevirtual 23, 3) := by decide +kernel
theorem dL_areLots_135 : decode cL_areLots 135 = .ok (.istore 9, 2) := by decide +kernel
theorem dL_areLots_137 : decode cL_areLots 137 = .ok (.aload_n 0, 1) := by decide +kernel
theorem dL_areLots_138 : decode cL_areLots 138 = .ok (.iload 8, 2) := by decide +kernel
theorem dL_areLots_140 : decode cL_areLots 140 = .ok (.iconst 1, 1) := by decide +kernel
theorem dL_areLots_141 : decode cL_areLots 141 = .ok (.invokevirtual 23, 3) := by decide +kernel
theorem dL_areLots_144 : decode cL_areLots 144 = .ok (.istore 10, 2) := by decide +kernel
theorem dL_areLots_146 : decode cL_areLots 146 = .ok (.iload_n 2, 1) := by decide +kernel
theorem dL_areLots_147 : decode cL_areLots 147 = .ok (.iload 9, 2) := by decide +kernel
theorem dL_areLots_149 : decode cL_areLots 149 = .ok (.iadd, 1) := by decide +kernel
theorem dL_areLots_150 : decode cL_areLots 150 = .ok (.istore_n 2, 1) := by decide +kernel
theorem dL_areLots_151 : decode cL_areLots 151 = .ok (.iload_n 3, 1) := by decide +kernel
theorem dL_areLots_152 : decode cL_areLots 152 = .ok (.iload 10, 2) := by decide +kernel
theorem dL_areLots_154 : decode cL_areLots 154 = .ok (.iconst 2, 1) := by decide +kernel
theorem dL_areLots_155 : decode cL_areLots 155 = .ok (.if_icmp .ge 8, 3) := by decide +kernel
theorem dL_areLots_158 : decode cL_areLots 158 = .ok (.iload 9, 2) := by decide +kernel
theorem dL_areLots_160 : decode cL_areLots 160 = .ok (.goto 4, 3) := by decide +kernel
theorem dL_areLots_163 : decode cL_areLots 163 = .ok (.iconst 0, 1) := by decide +kernel
theorem dL_areLots_164 : decode cL_areLots 164 = .ok (.iadd, 1) := by decide +kernel
theorem dL_areLots_165 : decode cL_areLots 165 = .ok (.istore_n 3, 1) := by decide +kernel
theorem dL_areLots_166 : decode cL_areLots 166 = .ok (.iload 4, 2) := by decide +kernel
theorem dL_areLots_168 : decode cL_areLots 168 = .ok (.iload 10, 2) := by decide +kernel
theorem dL_areLots_170 : decode cL_areLots 170 = .ok (.iconst 3, 1) := by decide +kernel
theorem dL_areLots_171 : decode cL_areLots 171 = .ok (.if_icmp .ne 8, 3) := by decide +kernel
theorem dL_areLots_174 : decode cL_areLots 174 = .ok (.iload 9, 2) := by decide +kernel
theorem dL_areLots_176 : decode cL_areLots 176 = .ok (.goto 4, 3) := by decide +kernel
theorem dL_areLots_179 : decode cL_areLots 179 = .ok (.iconst 0, 1) := by decide +kernel
theorem dL_areLots_180 : decode cL_areLots 180 = .ok (.iadd, 1) := by decide +kernel
theorem dL_areLots_181 : decode cL_areLots 181 = .ok (.istore 4, 2) := by decide +kernel
theorem dL_areLots_183 : decode cL_areLots 183 = .ok (.iload 5, 2) := by decide +kernel
theorem dL_areLots_185 : decode cL_areLots 185 = .ok (.iload 10, 2) := by decide +kernel
theorem dL_areLots_187 : decode cL_areLots 187 = .ok (.iconst 2, 1) := by decide +kernel
theorem dL_areLots_188 : decode cL_areLots 188 = .ok (.if_icmp .ne 8, 3) := by decide +kernel
theorem dL_areLots_191 : decode cL_areLots 191 = .ok (.iload 9, 2) := by decide +kernel
theorem dL_areLots_193 : decode cL_areLots 193 = .ok (.goto 4, 3) := by decide +kernel
theorem dL_areLots_196 : decode cL_areLots 196 = .ok (.iconst 0, 1) := by decide +kernel
theorem dL_areLots_197 : decode cL_areLots 197 = .ok (.iadd, 1) := by decide +kernel
theorem dL_areLots_198 : decode cL_areLots 198 = .ok (.istore 5, 2) := by decide +kernel
theorem dL_areLots_200 : decode cL_areLots 200 = .ok (.iload 6, 2) := by decide +kernel
theorem dL_areLots_202 : decode cL_areLots 202 = .ok (.aload_n 0, 1) := by decide +kernel
theorem dL_areLots_203 : decode cL_areLots 203 = .ok (.iload 8, 2) := by decide +kernel
theorem dL_areLots_205 : decode cL_areLots 205 = .ok (.iconst 4, 1) := by decide +kernel
theorem dL_areLots_206 : decode cL_areLots 206 = .ok (.invokevirtual 23, 3) := by decide +kernel
theorem dL_areLots_209 : decode cL_areLots 209 = .ok (.ior, 1) := by decide +kernel
theorem dL_areLots_210 : decode cL_areLots 210 = .ok (.istore 6, 2) := by decide +kernel
theorem dL_areLots_212 : decode cL_areLots 212 = .ok (.iload 9, 2) := by decide +kernel
theorem dL_areLots_214 : decode cL_areLots 214 = .ok (.ifCond .le 243, 3) := by decide +kernel
theorem dL_areLots_217 : decode cL_areLots 217 = .ok (.iload 9, 2) := by decide +kernel
theorem dL_areLots_219 : decode cL_areLots 219 = .ok (.sipush 10000, 3) := by decide +kernel
theorem dL_areLots_222 : decode cL_areLots 222 = .ok (.if_icmp .ge 235, 3) := by decide +kernel
theorem dL_areLots_225 : decode cL_areLots 225 = .ok (.iload 10, 2) := by decide +kernel
theorem dL_areLots_227 : decode cL_areLots 227 = .ok (.ifCond .lt 230, 3) := by decide +kernel
theorem dL_areLots_230 : decode cL_areLots 230 = .ok (.iload 10, 2) := by decide +kernel
theorem dL_areLots_232 : decode cL_areLots 232 = .ok (.iconst 5, 1) := by decide +kernel
theorem dL_areLots_233 : decode cL_areLots 233 = .ok (.if_icmp .ge 224, 3) := by decide +kernel
theorem dL_areLots_236 : decode cL_areLots 236 = .ok (.aload_n 0, 1) := by decide +kernel
theorem dL_areLots_237 : decode cL_areLots 237 = .ok (.iconst 3, 1) := by decide +kernel
theorem dL_areLots_238 : decode cL_areLots 238 = .ok (.iload 10, 2) := by decide +kernel
theorem dL_areLots_240 : decode cL_areLots 240 = .ok (.iadd, 1) := by decide +kernel
theorem dL_areLots_241 : decode cL_areLots 241 = .ok (.invokevirtual 14, 3) := by decide +kernel
theorem dL_areLots_244 : decode cL_areLots 244 = .ok (.iload 8, 2) := by decide +kernel
theorem dL_areLots_246 : decode cL_areLots 246 = .ok (.ishr, 1) := by decide +kernel
theorem dL_areLots_247 : decode cL_areLots 247 = .ok (.iconst 1, 1) := by decide +kernel
theorem dL_areLots_248 : decode cL_areLots 248 = .ok (.iand, 1) := by decide +kernel
theorem dL_areLots_249 : decode cL_areLots 249 = .ok (.iconst 1, 1) := by decide +kernel
theorem dL_areLots_250 : decode cL_areLots 250 = .ok (.if_icmp .ne 207, 3) := by decide +kernel
theorem dL_areLots_253 : decode cL_areLots 253 = .ok (.aload_n 0, 1) := by decide +kernel
theorem dL_areLots_254 : decode cL_areLots 254 = .ok (.iload 8, 2) := by decide +kernel
theorem dL_areLots_256 : decode cL_areLots 256 = .ok (.iconst 4, 1) := by decide +kernel
theorem dL_areLots_257 : decode cL_areLots 257 = .ok (.invokevirtual 23, 3) := by decide +kernel
theorem dL_areLots_260 : decode cL_areLots 260 = .ok (.aload_n 0, 1) := by decide +kernel
theorem dL_areLots_261 : decode cL_areLots 261 = .ok (.iload 8, 2) := by decide +kernel
theorem dL_areLots_263 : decode cL_areLots 263 = .ok (.iconst 5, 1) := by decide +kernel
theorem dL_areLots_264 : decode cL_areLots 264 = .ok (.invokevirtual 23, 3) := by decide +kernel
theorem dL_areLots_267 : decode cL_areLots 267 = .ok (.iand, 1) := by decide +kernel
theorem dL_areLots_268 : decode cL_areLots 268 = .ok (.aload_n 0, 1) := by decide +kernel
theorem dL_areLots_269 : decode cL_areLots 269 = .ok (.iload 8, 2) := by decide +kernel
theorem dL_areLots_271 : decode cL_areLots 271 = .ok (.iconst 4, 1) := by decide +kernel
theorem dL_areLots_272 : decode cL_areLots 272 = .ok (.invokevirtual 23, 3) := by decide +kernel
theorem dL_areLots_275 : decode cL_areLots 275 = .ok (.if_icmp .ne 182, 3) := by decide +kernel
theorem dL_areLots_278 : decode cL_areLots 278 = .ok (.iload 10, 2) := by decide +kernel
theorem dL_areLots_280 : decode cL_areLots 280 = .ok (.iconst 2, 1) := by decide +kernel
theorem dL_areLots_281 : decode cL_areLots 281 = .ok (.if_icmp .eq 9, 3) := by decide +kernel
theorem dL_areLots_284 : decode cL_areLots 284 = .ok (.iload 10, 2) := by decide +kernel
theorem dL_areLots_286 : decode cL_areLots 286 = .ok (.iconst 4, 1) := by decide +kernel
theorem dL_areLots_287 : decode cL_areLots 287 = .ok (.if_icmp .ne 13, 3) := by decide +kernel
theorem dL_areLots_290 : decode cL_areLots 290 = .ok (.aload_n 0, 1) := by decide +kernel
theorem dL_areLots_291 : decode cL_areLots 291 = .ok (.iload 8, 2) := by decide +kernel
theorem dL_areLots_293 : decode cL_areLots 293 = .ok (.iconst 4, 1) := by decide +kernel
theorem dL_areLots_294 : decode cL_areLots 294 = .ok (.invokevirtual 23, 3) := by decide +kernel
theorem dL_areLots_297 : decode cL_areLots 297 = .ok (.ifCond .ne 160, 3) := by decide +kernel
theorem dL_areLots_300 : decode cL_areLots 300 = .ok (.iload 10, 2) := by decide +kernel
theorem dL_areLots_302 : decode cL_areLots 302 = .ok (.ifCond .gt 13, 3) := by decide +kernel
theorem dL_areLots_305 : decode cL_areLots 305 = .ok (.aload_n 0, 1) := by decide +kernel
theorem dL_areLots_306 : decode cL_areLots 306 = .ok (.iload 8, 2) := by decide +kernel
theorem dL_areLots_308 : decode cL_areLots 308 = .ok (.iconst 2, 1) := by decide +kernel
theorem dL_areLots_309 : decode cL_areLots 309 = .ok (.invokevirtual 23, 3) := by decide +kernel
theorem dL_areLots_312 : decode cL_areLots 312 = .ok (.ifCond .ne 145, 3) := by decide +kernel
theorem dL_areLots_315 : decode cL_areLots 315 = .ok (.iload 10, 2) := by decide +kernel
theorem dL_areLots_317 : decode cL_areLots 317 = .ok (.iconst 2, 1) := by decide +kernel
theorem dL_areLots_318 : decode cL_areLots 318 = .ok (.if_icmp .gt 13, 3) := by decide +kernel
theorem dL_areLots_321 : decode cL_areLots 321 = .ok (.aload_n 0, 1) := by decide +kernel
theorem dL_areLots_322 : decode cL_areLots 322 = .ok (.iload 8, 2) := by decide +kernel
theorem dL_areLots_324 : decode cL_areLots 324 = .ok (.iconst 3, 1) := by decide +kernel
theorem dL_areLots_325 : decode cL_areLots 325 = .ok (.invokevirtual 23, 3) := by decide +kernel
theorem dL_areLots_328 : decode cL_areLots 328 = .ok (.ifCond .ne 129, 3) := by decide +kernel
theorem dL_areLots_331 : decode cL_areLots 331 = .ok (.aload_n 0, 1) := by decide +kernel
theorem dL_areLots_332 : decode cL_areLots 332 = .ok (.iload 8, 2) := by decide +kernel
theorem dL_areLots_334 : decode cL_areLots 334 = .ok (.iconst 2, 1) := by decide +kernel
theorem dL_areLots_335 : decode cL_areLots 335 = .ok (.invokevirtual 23, 3) := by decide +kernel
theorem dL_areLots_338 : decode cL_areLots 338 = .ok (.ifCond .lt 119, 3) := by decide +kernel
theorem dL_areLots_341 : decode cL_areLots 341 = .ok (.aload_n 0, 1) := by decide +kernel
theorem dL_areLots_342 : decode cL_areLots 342 = .ok (.iload 8, 2) := by decide +kernel
theorem dL_areLots_344 : decode cL_areLots 344 = .ok (.iconst 2, 1) := by decide +kernel
theorem dL_areLots_345 : decode cL_areLots 345 = .ok (.invokevirtual 23, 3) := by decide +kernel
theorem dL_areLots_348 : decode cL_areLots 348 = .ok (.aload_n 0, 1) := by decide +kernel
theorem dL_areLots_349 : decode cL_areLots 349 = .ok (.iconst 0, 1) := by decide +kernel
theorem dL_areLots_350 : decode cL_areLots 350 = .ok (.invokevirtual 14, 3) := by decide +kernel
theorem dL_areLots_353 : decode cL_areLots 353 = .ok (.if_icmp .gt 104, 3) := by decide +kernel
theorem dL_areLots_356 : decode cL_areLots 356 = .ok (.aload_n 0, 1) := by decide +kernel
theorem dL_areLots_357 : decode cL_areLots 357 = .ok (.iload 8, 2) := by decide +kernel
theorem dL_areLots_359 : decode cL_areLots 359 = .ok (.iconst 3, 1) := by decide +kernel
theorem dL_areLots_360 : decode cL_areLots 360 = .ok (.invokevirtual 23, 3) := by decide +kernel
theorem dL_areLots_363 : decode cL_areLots 363 = .ok (.aload_n 0, 1) := by decide +kernel
theorem dL_areLots_364 : decode cL_areLots 364 = .ok (.iconst 0, 1) := by decide +kernel
theorem dL_areLots_365 : decode cL_areLots 365 = .ok (.invokevirtual 14, 3) := by decide +kernel
theorem dL_areLots_368 : decode cL_areLots 368 = .ok (.if_icmp .gt 89, 3) := by decide +kernel
theorem dL_areLots_371 : decode cL_areLots 371 = .ok (.iload 10, 2) := by decide +kernel
theorem dL_areLots_373 : decode cL_areLots 373 = .ok (.iconst 1, 1) := by decide +kernel
theorem dL_areLots_374 : decode cL_areLots 374 = .ok (.if_icmp .eq 13, 3) := by decide +kernel
theorem dL_areLots_377 : decode cL_areLots 377 = .ok (.aload_n 0, 1) := by decide +kernel
theorem dL_areLots_378 : decode cL_areLots 378 = .ok (.iload 8, 2) := by decide +kernel
theorem dL_areLots_380 : decode cL_areLots 380 = .ok (.invokevirtual 33, 3) := by decide +kernel
theorem dL_areLots_383 : decode cL_areLots 383 = .ok (.iconst 1, 1) := by decide +kernel
theorem dL_areLots_384 : decode cL_areLots 384 = .ok (.if_icmp .ne 73, 3) := by decide +kernel
theorem dL_areLots_387 : decode cL_areLots 387 = .ok (.aload_n 0, 1) := by decide +kernel
theorem dL_areLots_388 : decode cL_areLots 388 = .ok (.iload 8, 2) := by decide +kernel
theorem dL_areLots_390 : decode cL_areLots 390 = .ok (.invokevirtual 33, 3) := by decide +kernel
theorem dL_areLots_393 : decode cL_areLots 393 = .ok (.ifCond .ne 13, 3) := by decide +kernel
theorem dL_areLots_396 : decode cL_areLots 396 = .ok (.aload_n 0, 1) := by decide +kernel
theorem dL_areLots_397 : decode cL_areLots 397 = .ok (.iload 8, 2) := by decide +kernel
theorem dL_areLots_399 : decode cL_areLots 399 = .ok (.iconst 4, 1) := by decide +kernel
theorem dL_areLots_400 : decode cL_areLots 400 = .ok (.invokevirtual 23, 3) := by decide +kernel
theorem dL_areLots_403 : decode cL_areLots 403 = .ok (.ifCond .ne 54, 3) := by decide +kernel
theorem dL_areLots_406 : decode cL_areLots 406 = .ok (.aload_n 0, 1) := by decide +kernel
theorem dL_areLots_407 : decode cL_areLots 407 = .ok (.iload 8, 2) := by decide +kernel
theorem dL_areLots_409 : decode cL_areLots 409 = .ok (.bipush 6, 2) := by decide +kernel
theorem dL_areLots_411 : decode cL_areLots 411 = .ok (.invokevirtual 23, 3) := by decide +kernel
theorem dL_areLots_414 : decode cL_areLots 414 = .ok (.bipush (-6), 2) := by decide +kernel
theorem dL_areLots_416 : decode cL_areLots 416 = .ok (.if_icmp .eq 37, 3) := by decide +kernel
theorem dL_areLots_419 : decode cL_areLots 419 = .ok (.aload_n 0, 1) := by decide +kernel
theorem dL_areLots_420 : decode cL_areLots 420 = .ok (.iload 8, 2) := by decide +kernel
theorem dL_areLots_422 : decode cL_areLots 422 = .ok (.bipush 6, 2) := by decide +kernel
theorem dL_areLots_424 : decode cL_areLots 424 = .ok (.invokevirtual 23, 3) := by decide +kernel
theorem dL_areLots_427 : decode cL_areLots 427 = .ok (.ifCond .le 30, 3) := by decide +kernel
theorem dL_areLots_430 : decode cL_areLots 430 = .ok (.aload_n 0, 1) := by decide +kernel
theorem dL_areLots_431 : decode cL_areLots 431 = .ok (.iload 8, 2) := by decide +kernel
theorem dL_areLots_433 : decode cL_areLots 433 = .ok (.bipush 6, 2) := by decide +kernel
theorem dL_areLots_435 : decode cL_areLots 435 = .ok (.invokevirtual 23, 3) := by decide +kernel
theorem dL_areLots_438 : decode cL_areLots 438 = .ok (.bipush 6, 2) := by decide +kernel
theorem dL_areLots_440 : decode cL_areLots 440 = .ok (.if_icmp .ge 17, 3) := by decide +kernel
theorem dL_areLots_443 : decode cL_areLots 443 = .ok (.aload_n 0, 1) := by decide +kernel
theorem dL_areLots_444 : decode cL_areLots 444 = .ok (.iload 8, 2) := by decide +kernel
theorem dL_areLots_446 : decode cL_areLots 446 = .ok (.iconst 4, 1) := by decide +kernel
theorem dL_areLots_447 : decode cL_areLots 447 = .ok (.invokevirtual 23, 3) := by decide +kernel
theorem dL_areLots_450 : decode cL_areLots 450 = .ok (.ifCond .eq 7, 3) := by decide +kernel
theorem dL_areLots_453 : decode cL_areLots 453 = .ok (.iconst 1, 1) := by decide +kernel
theorem dL_areLots_454 : decode cL_areLots 454 = .ok (.goto 4, 3) := by decide +kernel
theorem dL_areLots_457 : decode cL_areLots 457 = .ok (.iconst 0, 1) := by decide +kernel
theorem dL_areLots_458 : decode cL_areLots 458 = .ok (.istore 7, 2) := by decide +kernel
theorem dL_areLots_460 : decode cL_areLots 460 = .ok (.aload_n 0, 1) := by decide +kernel
theorem dL_areLots_461 : decode cL_areLots 461 = .ok (.iload 8, 2) := by decide +kernel
theorem dL_areLots_463 : decode cL_areLots 463 = .ok (.invokevirtual 38, 3) := by decide +kernel
theorem dL_areLots_466 : decode cL_areLots 466 = .ok (.istore 11, 2) := by decide +kernel
theorem dL_areLots_468 : decode cL_areLots 468 = .ok (.iload 7, 2) := by decide +kernel
theorem dL_areLots_470 : decode cL_areLots 470 = .ok (.ifCond .eq 66, 3) := by decide +kernel
theorem dL_areLots_473 : decode cL_areLots 473 = .ok (.iload 10, 2) := by decide +kernel
theorem dL_areLots_475 : decode cL_areLots 475 = .ok (.iconst 1, 1) := by decide +kernel
theorem dL_areLots_476 : decode cL_areLots 476 = .ok (.if_icmp .ne 26, 3) := by decide +kernel
theorem dL_areLots_479 : decode cL_areLots 479 = .ok (.iload 11, 2) := by decide +kernel
theorem dL_areLots_481 : decode cL_areLots 481 = .ok (.bipush (-6), 2) := by decide +kernel
theorem dL_areLots_483 : decode cL_areLots 483 = .ok (.if_icmp .eq 26, 3) := by decide +kernel
theorem dL_areLots_486 : decode cL_areLots 486 = .ok (.iload 11, 2) := by decide +kernel
theorem dL_areLots_488 : decode cL_areLots 488 = .ok (.ifCond .le 48, 3) := by decide +kernel
theorem dL_areLots_491 : decode cL_areLots 491 = .ok (.iload 11, 2) := by decide +kernel
theorem dL_areLots_493 : decode cL_areLots 493 = .ok (.sipush 700, 3) := by decide +kernel
theorem dL_areLots_496 : decode cL_areLots 496 = .ok (.if_icmp .gt 40, 3) := by decide +kernel
theorem dL_areLots_499 : decode cL_areLots 499 = .ok (.goto 10, 3) := by decide +kernel
theorem dL_areLots_502 : decode cL_areLots 502 = .ok (.iload 11, 2) := by decide +kernel
theorem dL_areLots_504 : decode cL_areLots 504 = .ok (.bipush (-5), 2) := by decide +kernel
theorem dL_areLots_506 : decode cL_areLots 506 = .ok (.if_icmp .ne 30, 3) := by decide +kernel
theorem dL_areLots_509 : decode cL_areLots 509 = .ok (.iload 11, 2) := by decide +kernel
theorem dL_areLots_511 : decode cL_areLots 511 = .ok (.ifCond .lt 21, 3) := by decide +kernel
theorem dL_areLots_514 : decode cL_areLots 514 = .ok (.aload_n 0, 1) := by decide +kernel
theorem dL_areLots_515 : decode cL_areLots 515 = .ok (.iconst 1, 1) := by decide +kernel
theorem dL_areLots_516 : decode cL_areLots 516 = .ok (.invokevirtual 41, 3) := by decide +kernel
theorem dL_areLots_519 : decode cL_areLots 519 = .ok (.ifCond .lt 17, 3) := by decide +kernel
theorem dL_areLots_522 : decode cL_areLots 522 = .ok (.aload_n 0, 1) := by decide +kernel
theorem dL_areLots_523 : decode cL_areLots 523 = .ok (.iconst 1, 1) := by decide +kernel
theorem dL_areLots_524 : decode cL_areLots 524 = .ok (.invokevirtual 41, 3) := by decide +kernel
theorem dL_areLots_527 : decode cL_areLots 527 = .ok (.iload 11, 2) := by decide +kernel
theorem dL_areLots_529 : decode cL_areLots 529 = .ok (.if_icmp .gt 7, 3) := by decide +kernel
theorem dL_areLots_532 : decode cL_areLots 532 = .ok (.iconst 1, 1) := by decide +kernel
theorem dL_areLots_533 : decode cL_areLots 533 = .ok (.goto 4, 3) := by decide +kernel
theorem dL_areLots_536 : decode cL_areLots 536 = .ok (.iconst 0, 1) := by decide +kernel
theorem dL_areLots_537 : decode cL_areLots 537 = .ok (.istore 7, 2) := by decide +kernel
theorem dL_areLots_539 : decode cL_areLots 539 = .ok (.iinc 8 1, 3) := by decide +kernel
theorem dL_areLots_542 : decode cL_areLots 542 = .ok (.goto (-425), 3) := by decide +kernel
theorem dL_areLots_545 : decode cL_areLots 545 = .ok (.iload 7, 2) := by decide +kernel
theorem dL_areLots_547 : decode cL_areLots 547 = .ok (.ifCond .eq 89, 3) := by decide +kernel
theorem dL_areLots_550 : decode cL_areLots 550 = .ok (.iload_n 2, 1) := by decide +kernel
theorem dL_areLots_551 : decode cL_areLots 551 = .ok (.aload_n 0, 1) := by decide +kernel
theorem dL_areLots_552 : decode cL_areLots 552 = .ok (.bipush 8, 2) := by decide +kernel
theorem dL_areLots_554 : decode cL_areLots 554 = .ok (.invokevirtual 14, 3) := by decide +kernel
theorem dL_areLots_557 : decode cL_areLots 557 = .ok (.if_icmp .ne 79, 3) := by decide +kernel
theorem dL_areLots_560 : decode cL_areLots 560 = .ok (.iload_n 3, 1) := by decide +kernel
theorem dL_areLots_561 : decode cL_areLots 561 = .ok (.aload_n 0, 1) := by decide +kernel
theorem dL_areLots_562 : decode cL_areLots 562 = .ok (.bipush 9, 2) := by decide +kernel
theorem dL_areLots_564 : decode cL_areLots 564 = .ok (.invokevirtual 14, 3) := by decide +kernel
theorem dL_areLots_567 : decode cL_areLots 567 = .ok (.if_icmp .ne 69, 3) := by decide +kernel
theorem dL_areLots_570 : decode cL_areLots 570 = .ok (.iload 6, 2) := by decide +kernel
theorem dL_areLots_572 : decode cL_areLots 572 = .ok (.aload_n 0, 1) := by decide +kernel
theorem dL_areLots_573 : decode cL_areLots 573 = .ok (.bipush 12, 2) := by decide +kernel
theorem dL_areLots_575 : decode cL_areLots 575 = .ok (.invokevirtual 14, 3) := by decide +kernel
theorem dL_areLots_578 : decode cL_areLots 578 = .ok (.if_icmp .ne 58, 3) := by decide +kernel
theorem dL_areLots_581 : decode cL_areLots 581 = .ok (.aload_n 0, 1) := by decide +kernel
theorem dL_areLots_582 : decode cL_areLots 582 = .ok (.bipush 10, 2) := by decide +kernel
theorem dL_areLots_584 : decode cL_areLots 584 = .ok (.invokevirtual 14, 3) := by decide +kernel
theorem dL_areLots_587 : decode cL_areLots 587 = .ok (.iload 4, 2) := by decide +kernel
theorem dL_areLots_589 : decode cL_areLots 589 = .ok (.if_icmp .lt 47, 3) := by decide +kernel
theorem dL_areLots_592 : decode cL_areLots 592 = .ok (.aload_n 0, 1) := by decide +kernel
theorem dL_areLots_593 : decode cL_areLots 593 = .ok (.bipush 8, 2) := by decide +kernel
theorem dL_areLots_595 : decode cL_areLots 595 = .ok (.invokevirtual 14, 3) := by decide +kernel
theorem dL_areLots_598 : decode cL_areLots 598 = .ok (.aload_n 0, 1) := by decide +kernel
theorem dL_areLots_599 : decode cL_areLots 599 = .ok (.bipush 9, 2) := by decide +kernel
theorem dL_areLots_601 : decode cL_areLots 601 = .ok (.invokevirtual 14, 3) := by decide +kernel
theorem dL_areLots_604 : decode cL_areLots 604 = .ok (.aload_n 0, 1) := by decide +kernel
theorem dL_areLots_605 : decode cL_areLots 605 = .ok (.bipush 10, 2) := by decide +kernel
theorem dL_areLots_607 : decode cL_areLots 607 = .ok (.invokevirtual 14, 3) := by decide +kernel
theorem dL_areLots_610 : decode cL_areLots 610 = .ok (.iadd, 1) := by decide +kernel
theorem dL_areLots_611 : decode cL_areLots 611 = .ok (.aload_n 0, 1) := by decide +kernel
theorem dL_areLots_612 : decode cL_areLots 612 = .ok (.bipush 11, 2) := by decide +kernel
theorem dL_areLots_614 : decode cL_areLots 614 = .ok (.invokevirtual 14, 3) := by decide +kernel
theorem dL_areLots_617 : decode cL_areLots 617 = .ok (.iadd, 1) := by decide +kernel
theorem dL_areLots_618 : decode cL_areLots 618 = .ok (.if_icmp .ne 18, 3) := by decide +kernel
theorem dL_areLots_621 : decode cL_areLots 621 = .ok (.aload_n 0, 1) := by decide +kernel
theorem dL_areLots_622 : decode cL_areLots 622 = .ok (.bipush 11, 2) := by decide +kernel
theorem dL_areLots_624 : decode cL_areLots 624 = .ok (.invokevirtual 14, 3) := by decide +kernel
theorem dL_areLots_627 : decode cL_areLots 627 = .ok (.iload 5, 2) := by decide +kernel
theorem dL_areLots_629 : decode cL_areLots 629 = .ok (.if_icmp .lt 7, 3) := by decide +kernel
theorem dL_areLots_632 : decode cL_areLots 632 = .ok (.iconst 1, 1) := by decide +kernel
theorem dL_areLots_633 : decode cL_areLots 633 = .ok (.goto 4, 3) := by decide +kernel
theorem dL_areLots_636 : decode cL_areLots 636 = .ok (.iconst 0, 1) := by decide +kernel
theorem dL_areLots_637 : decode cL_areLots 637 = .ok (.ireturn, 1) := by decide +kernel
theorem dL_areClaims_0 : decode cL_areClaims 0 = .ok (.aload_n 0, 1) := by decide +kernel
theorem dL_areClaims_1 : decode cL_areClaims 1 = .ok (.iconst 2, 1) := by decide +kernel
theorem dL_areClaims_2 : decode cL_areClaims 2 = .ok (.invokevirtual 14, 3) := by decide +kernel
theorem dL_areClaims_5 : decode cL_areClaims 5 = .ok (.istore_n 1, 1) := by decide +kernel
theorem dL_areClaims_6 : decode cL_areClaims 6 = .ok (.iconst 0, 1) := by decide +kernel
theorem dL_areClaims_7 : decode cL_areClaims 7 = .ok (.istore_n 2, 1) := by decide +kernel
theorem dL_areClaims_8 : decode cL_areClaims 8 = .ok (.iconst 0, 1) := by decide +kernel
theorem dL_areClaims_9 : decode cL_areClaims 9 = .ok (.istore_n 3, 1) := by decide +kernel
theorem dL_areClaims_10 : decode cL_areClaims 10 = .ok (.iload_n 1, 1) := by decide +kernel
theorem dL_areClaims_11 : decode cL_areClaims 11 = .ok (.ifCond .lt 13, 3) := by decide +kernel
theorem dL_areClaims_14 : decode cL_areClaims 14 = .ok (.iload_n 1, 1) := by decide +kernel
theorem dL_areClaims_15 : decode cL_areClaims 15 = .ok (.bipush 30, 2) := by decide +kernel
theorem dL_areClaims_17 : decode cL_areClaims 17 = .ok (.if_icmp .gt 7, 3) := by decide +kernel
theorem dL_areClaims_20 : decode cL_areClaims 20 = .ok (.iconst 1, 1) := by decide +kernel
theorem dL_areClaims_21 : decode cL_areClaims 21 = .ok (.goto 4, 3) := by decide +kernel
theorem dL_areClaims_24 : decode cL_areClaims 24 = .ok (.iconst 0, 1) := by decide +kernel
theorem dL_areClaims_25 : decode cL_areClaims 25 = .ok (.istore 4, 2) := by decide +kernel
theorem dL_areClaims_27 : decode cL_areClaims 27 = .ok (.iconst 0, 1) := by decide +kernel
theorem dL_areClaims_28 : decode cL_areClaims 28 = .ok (.istore 5, 2) := by decide +kernel
theorem dL_areClaims_30 : decode cL_areClaims 30 = .ok (.iload 5, 2) := by decide +kernel
theorem dL_areClaims_32 : decode cL_areClaims 32 = .ok (.iload_n 1, 1) := by decide +kernel
theorem dL_areClaims_33 : decode cL_areClaims 33 = .ok (.if_icmp .ge 341, 3) := by decide +kernel
theorem dL_areClaims_36 : decode cL_areClaims 36 = .ok (.iload 4, 2) := by decide +kernel
theorem dL_areClaims_38 : decode cL_areClaims 38 = .ok (.ifCond .eq 336, 3) := by decide +kernel
theorem dL_areClaims_41 : decode cL_areClaims 41 = .ok (.aload_n 0, 1) := by decide +kernel
theorem dL_areClaims_42 : decode cL_areClaims 42 = .ok (.iload 5, 2) := by decide +kernel
theorem dL_areClaims_44 : decode cL_areClaims 44 = .ok (.iconst 4, 1) := by decide +kernel
theorem dL_areClaims_45 : decode cL_areClaims 45 = .ok (.invokevirtual 30, 3) := by decide +kernel
theorem dL_areClaims_48 : decode cL_areClaims 48 = .ok (.istore 6, 2) := by decide +kernel
theorem dL_areClaims_50 : decode cL_areClaims 50 = .ok (.aload_n 0, 1) := by decide +kernel
theorem dL_areClaims_51 : decode cL_areClaims 51 = .ok (.iload 5, 2) := by decide +kernel
theorem dL_areClaims_53 : decode cL_areClaims 53 = .ok (.iconst 1, 1) := by decide +kernel
theorem dL_areClaims_54 : decode cL_areClaims 54 = .ok (.invokevirtual 30, 3) := by decide +kernel
theorem dL_areClaims_57 : decode cL_areClaims 57 = .ok (.istore 7, 2) := by decide +kernel
theorem dL_areClaims_59 : decode cL_areClaims 59 = .ok (.aload_n 0, 1) := by decide +kernel
theorem dL_areClaims_60 : decode cL_areClaims 60 = .ok (.iload 5, 2) := by decide +kernel
theorem dL_areClaims_62 : decode cL_areClaims 62 = .ok (.iconst 0, 1) := by decide +kernel
theorem dL_areClaims_63 : decode cL_areClaims 63 = .ok (.invokevirtual 30, 3) := by decide +kernel
theorem dL_areClaims_66 : decode cL_areClaims 66 = .ok (.istore 8, 2) := by decide +kernel
theorem dL_areClaims_68 : decode cL_areClaims 68 = .ok (.iload_n 2, 1) := by decide +kernel
theorem dL_areClaims_69 : decode cL_areClaims 69 = .ok (.iload 6, 2) := by decide +kernel
theorem dL_areClaims_71 : decode cL_areClaims 71 = .ok (.iconst 2, 1) := by decide +kernel
theorem dL_areClaims_72 : decode cL_areClaims 72 = .ok (.if_icmp .ge 10, 3) := by decide +kernel
theorem dL_areClaims_75 : decode cL_areClaims 75 = .ok (.iconst 1, 1) := by decide +kernel
theorem dL_areClaims_76 : decode cL_areClaims 76 = .ok (.iload 5, 2) := by decide +kernel
theorem dL_areClaims_78 : decode cL_areClaims 78 = .ok (.ishl, 1) := by decide +kernel
theorem dL_areClaims_79 : decode cL_areClaims 79 = .ok (.goto 4, 3) := by decide +kernel
theorem dL_areClaims_82 : decode cL_areClaims 82 = .ok (.iconst 0, 1) := by decide +kernel
theorem dL_areClaims_83 : decode cL_areClaims 83 = .ok (.ior, 1) := by decide +kernel
theorem dL_areClaims_84 : decode cL_areClaims 84 = .ok (.istore_n 2, 1) := by decide +kernel
theorem dL_areClaims_85 : decode cL_areClaims 85 = .ok (.iload_n 3, 1) := by decide +kernel
theorem dL_areClaims_86 : decode cL_areClaims 86 = .ok (.aload_n 0, 1) := by decide +kernel
theorem dL_areClaims_87 : decode cL_areClaims 87 = .ok (.iload 5, 2) := by decide +kernel
theorem dL_areClaims_89 : decode cL_areClaims 89 = .ok (.bipush 6, 2) := by decide +kernel
theorem dL_areClaims_91 : decode cL_areClaims 91 = .ok (.invokevirtual 30, 3) := by decide +kernel
theorem dL_areClaims_94 : decode cL_areClaims 94 = .ok (.iadd, 1) := by decide +kernel
theorem dL_areClaims_95 : decode cL_areClaims 95 = .ok (.istore_n 3, 1) := by decide +kernel
theorem dL_areClaims_96 : decode cL_areClaims 96 = .ok (.iload 6, 2) := by decide +kernel
theorem dL_areClaims_98 : decode cL_areClaims 98 = .ok (.ifCond .lt 198, 3) := by decide +kernel
theorem dL_areClaims_101 : decode cL_areClaims 101 = .ok (.iload 6, 2) := by decide +kernel
theorem dL_areClaims_103 : decode cL_areClaims 103 = .ok (.bipush 6, 2) := by decide +kernel
theorem dL_areClaims_105 : decode cL_areClaims 105 = .ok (.if_icmp .ge 191, 3) := by decide +kernel
theorem dL_areClaims_108 : decode cL_areClaims 108 = .ok (.iload 7, 2) := by decide +kernel
theorem dL_areClaims_110 : decode cL_areClaims 110 = .ok (.ifCond .lt 186, 3) := by decide +kernel
theorem dL_areClaims_113 : decode cL_areClaims 113 = .ok (.iload 7, 2) := by decide +kernel
theorem dL_areClaims_115 : decode cL_areClaims 115 = .ok (.aload_n 0, 1) := by decide +kernel
theorem dL_areClaims_116 : decode cL_areClaims 116 = .ok (.iconst 1, 1) := by decide +kernel
theorem dL_areClaims_117 : decode cL_areClaims 117 = .ok (.invokevirtual 14, 3) := by decide +kernel
theorem dL_areClaims_120 : decode cL_areClaims 120 = .ok (.if_icmp .ge 176, 3) := by decide +kernel
theorem dL_areClaims_123 : decode cL_areClaims 123 = .ok (.iload 8, 2) := by decide +kernel
theorem dL_areClaims_125 : decode cL_areClaims 125 = .ok (.ifCond .lt 171, 3) := by decide +kernel
theorem dL_areClaims_128 : decode cL_areClaims 128 = .ok (.iload 8, 2) := by decide +kernel
theorem dL_areClaims_130 : decode cL_areClaims 130 = .ok (.bipush 16, 2) := by decide +kernel
theorem dL_areClaims_132 : decode cL_areClaims 132 = .ok (.if_icmp .ge 164, 3) := by decide +kernel
theorem dL_areClaims_135 : decode cL_areClaims 135 = .ok (.aload_n 0, 1) := by decide +kernel
theorem dL_areClaims_136 : decode cL_areClaims 136 = .ok (.iload 5, 2) := by decide +kernel
theorem dL_areClaims_138 : decode cL_areClaims 138 = .ok (.iconst 2, 1) := by decide +kernel
theorem dL_areClaims_139 : decode cL_areClaims 139 = .ok (.invokevirtual 30, 3) := by decide +kernel
theorem dL_areClaims_142 : decode cL_areClaims 142 = .ok (.ifCond .le 154, 3) := by decide +kernel
theorem dL_areClaims_145 : decode cL_areClaims 145 = .ok (.aload_n 0, 1) := by decide +kernel
theorem dL_areClaims_146 : decode cL_areClaims 146 = .ok (.iload 5, 2) := by decide +kernel
theorem dL_areClaims_148 : decode cL_areClaims 148 = .ok (.iconst 2, 1) := by decide +kernel
theorem dL_areClaims_149 : decode cL_areClaims 149 = .ok (.invokevirtual 30, 3) := by decide +kernel
theorem dL_areClaims_152 : decode cL_areClaims 152 = .ok (.bipush 6, 2) := by decide +kernel
theorem dL_areClaims_154 : decode cL_areClaims 154 = .ok (.if_icmp .ge 142, 3) := by decide +kernel
theorem dL_areClaims_157 : decode cL_areClaims 157 = .ok (.aload_n 0, 1) := by decide +kernel
theorem dL_areClaims_158 : decode cL_areClaims 158 = .ok (.iload 5, 2) := by decide +kernel
theorem dL_areClaims_160 : decode cL_areClaims 160 = .ok (.iconst 3, 1) := by decide +kernel
theorem dL_areClaims_161 : decode cL_areClaims 161 = .ok (.invokevirtual 30, 3) := by decide +kernel
theorem dL_areClaims_164 : decode cL_areClaims 164 = .ok (.ifCond .lt 132, 3) := by decide +kernel
theorem dL_areClaims_167 : decode cL_areClaims 167 = .ok (.aload_n 0, 1) := by decide +kernel
theorem dL_areClaims_168 : decode cL_areClaims 168 = .ok (.iload 5, 2) := by decide +kernel
theorem dL_areClaims_170 : decode cL_areClaims 170 = .ok (.iconst 3, 1) := by decide +kernel
theorem dL_areClaims_171 : decode cL_areClaims 171 = .ok (.invokevirtual 30, 3) := by decide +kernel
theorem dL_areClaims_174 : decode cL_areClaims 174 = .ok (.bipush 100, 2) := by decide +kernel
theorem dL_areClaims_176 : decode cL_areClaims 176 = .ok (.if_icmp .gt 120, 3) := by decide +kernel
theorem dL_areClaims_179 : decode cL_areClaims 179 = .ok (.aload_n 0, 1) := by decide +kernel
theorem dL_areClaims_180 : decode cL_areClaims 180 = .ok (.iload 5, 2) := by decide +kernel
theorem dL_areClaims_182 : decode cL_areClaims 182 = .ok (.iconst 5, 1) := by decide +kernel
theorem dL_areClaims_183 : decode cL_areClaims 183 = .ok (.invokevirtual 30, 3) := by decide +kernel
theorem dL_areClaims_186 : decode cL_areClaims 186 = .ok (.ifCond .lt 110, 3) := by decide +kernel
theorem dL_areClaims_189 : decode cL_areClaims 189 = .ok (.iload 6, 2) := by decide +kernel
theorem dL_areClaims_191 : decode cL_areClaims 191 = .ok (.iconst 5, 1) := by decide +kernel
theorem dL_areClaims_192 : decode cL_areClaims 192 = .ok (.if_icmp .eq 14, 3) := by decide +kernel
theorem dL_areClaims_195 : decode cL_areClaims 195 = .ok (.aload_n 0, 1) := by decide +kernel
theorem dL_areClaims_196 : decode cL_areClaims 196 = .ok (.iload 5, 2) := by decide +kernel
theorem dL_areClaims_198 : decode cL_areClaims 198 = .ok (.bipush 6, 2) := by decide +kernel
theorem dL_areClaims_200 : decode cL_areClaims 200 = .ok (.invokevirtual 30, 3) := by decide +kernel
theorem dL_areClaims_203 : decode cL_areClaims 203 = .ok (.ifCond .ne 93, 3) := by decide +kernel
theorem dL_areClaims_206 : decode cL_areClaims 206 = .ok (.iload 6, 2) := by decide +kernel
theorem dL_areClaims_208 : decode cL_areClaims 208 = .ok (.iconst 5, 1) := by decide +kernel
theorem dL_areClaims_209 : decode cL_areClaims 209 = .ok (.if_icmp .ne 25, 3) := by decide +kernel
theorem dL_areClaims_212 : decode cL_areClaims 212 = .ok (.aload_n 0, 1) := by decide +kernel
theorem dL_areClaims_213 : decode cL_areClaims 213 = .ok (.iload 7, 2) := by decide +kernel
theorem dL_areClaims_215 : decode cL_areClaims 215 = .ok (.iconst 1, 1) := by decide +kernel
theorem dL_areClaims_216 : decode cL_areClaims 216 = .ok (.invokevirtual 23, 3) := by decide +kernel
theorem dL_areClaims_219 : decode cL_areClaims 219 = .ok (.iconst 2, 1) := by decide +kernel
theorem dL_areClaims_220 : decode cL_areClaims 220 = .ok (.if_icmp .eq 14, 3) := by decide +kernel
theorem dL_areClaims_223 : decode cL_areClaims 223 = .ok (.aload_n 0, 1) := by decide +kernel
theorem dL_areClaims_224 : decode cL_areClaims 224 = .ok (.iload 7, 2) := by decide +kernel
theorem dL_areClaims_226 : decode cL_areClaims 226 = .ok (.iconst 1, 1) := by decide +kernel
theorem dL_areClaims_227 : decode cL_areClaims 227 = .ok (.invokevirtual 23, 3) := by decide +kernel
theorem dL_areClaims_230 : decode cL_areClaims 230 = .ok (.iconst 4, 1) := by decide +kernel
theorem dL_areClaims_231 : decode cL_areClaims 231 = .ok (.if_icmp .ne 65, 3) := by decide +kernel
theorem dL_areClaims_234 : decode cL_areClaims 234 = .ok (.aload_n 0, 1) := by decide +kernel
theorem dL_areClaims_235 : decode cL_areClaims 235 = .ok (.iload 7, 2) := by decide +kernel
theorem dL_areClaims_237 : decode cL_areClaims 237 = .ok (.iconst 5, 1) := by decide +kernel
theorem dL_areClaims_238 : decode cL_areClaims 238 = .ok (.invokevirtual 23, 3) := by decide +kernel
theorem dL_areClaims_241 : decode cL_areClaims 241 = .ok (.iload 5, 2) := by decide +kernel
theorem dL_areClaims_243 : decode cL_areClaims 243 = .ok (.ishr, 1) := by decide +kernel
theorem dL_areClaims_244 : decode cL_areClaims 244 = .ok (.iconst 1, 1) := by decide +kernel
theorem dL_areClaims_245 : decode cL_areClaims 245 = .ok (.iand, 1) := by decide +kernel
theorem dL_areClaims_246 : decode cL_areClaims 246 = .ok (.iconst 1, 1) := by decide +kernel
theorem dL_areClaims_247 : decode cL_areClaims 247 = .ok (.if_icmp .ne 49, 3) := by decide +kernel
theorem dL_areClaims_250 : decode cL_areClaims 250 = .ok (.aload_n 0, 1) := by decide +kernel
theorem dL_areClaims_251 : decode cL_areClaims 251 = .ok (.iload 8, 2) := by decide +kernel
theorem dL_areClaims_253 : decode cL_areClaims 253 = .ok (.iconst 1, 1) := by decide +kernel
theorem dL_areClaims_254 : decode cL_areClaims 254 = .ok (.invokevirtual 27, 3) := by decide +kernel
theorem dL_areClaims_257 : decode cL_areClaims 257 = .ok (.iload 5, 2) := by decide +kernel
theorem dL_areClaims_259 : decode cL_areClaims 259 = .ok (.ishr, 1) := by decide +kernel
theorem dL_areClaims_260 : decode cL_areClaims 260 = .ok (.iconst 1, 1) := by decide +kernel
theorem dL_areClaims_261 : decode cL_areClaims 261 = .ok (.iand, 1) := by decide +kernel
theorem dL_areClaims_262 : decode cL_areClaims 262 = .ok (.iconst 1, 1) := by decide +kernel
theorem dL_areClaims_263 : decode cL_areClaims 263 = .ok (.if_icmp .ne 33, 3) := by decide +kernel
theorem dL_areClaims_266 : decode cL_areClaims 266 = .ok (.aload_n 0, 1) := by decide +kernel
theorem dL_areClaims_267 : decode cL_areClaims 267 = .ok (.iload 8, 2) := by decide +kernel
theorem dL_areClaims_269 : decode cL_areClaims 269 = .ok (.iconst 2, 1) := by decide +kernel
theorem dL_areClaims_270 : decode cL_areClaims 270 = .ok (.invokevirtual 27, 3) := by decide +kernel
theorem dL_areClaims_273 : decode cL_areClaims 273 = .ok (.iload 5, 2) := by decide +kernel
theorem dL_areClaims_275 : decode cL_areClaims 275 = .ok (.ishr, 1) := by decide +kernel
theorem dL_areClaims_276 : decode cL_areClaims 276 = .ok (.iconst 1, 1) := by decide +kernel
theorem dL_areClaims_277 : decode cL_areClaims 277 = .ok (.iand, 1) := by decide +kernel
theorem dL_areClaims_278 : decode cL_areClaims 278 = .ok (.iload 6, 2) := by decide +kernel
theorem dL_areClaims_280 : decode cL_areClaims 280 = .ok (.iconst 2, 1) := by decide +kernel
theorem dL_areClaims_281 : decode cL_areClaims 281 = .ok (.if_icmp .ge 7, 3) := by decide +kernel
theorem dL_areClaims_284 : decode cL_areClaims 284 = .ok (.iconst 1, 1) := by decide +kernel
theorem dL_areClaims_285 : decode cL_areClaims 285 = .ok (.goto 4, 3) := by decide +kernel
theorem dL_areClaims_288 : decode cL_areClaims 288 = .ok (.iconst 0, 1) := by decide +kernel
theorem dL_areClaims_289 : decode cL_areClaims 289 = .ok (.if_icmp .ne 7, 3) := by decide +kernel
theorem dL_areClaims_292 : decode cL_areClaims 292 = .ok (.iconst 1, 1) := by decide +kernel
theorem dL_areClaims_293 : decode cL_areClaims 293 = .ok (.goto 4, 3) := by decide +kernel
theorem dL_areClaims_296 : decode cL_areClaims 296 = .ok (.iconst 0, 1) := by decide +kernel
theorem dL_areClaims_297 : decode cL_areClaims 297 = .ok (.istore 4, 2) := by decide +kernel
theorem dL_areClaims_299 : decode cL_areClaims 299 = .ok (.iconst 0, 1) := by decide +kernel
theorem dL_areClaims_300 : decode cL_areClaims 300 = .ok (.istore 9, 2) := by decide +kernel
theorem dL_areClaims_302 : decode cL_areClaims 302 = .ok (.iload 9, 2) := by decide +kernel
theorem dL_areClaims_304 : decode cL_areClaims 304 = .ok (.iload 5, 2) := by decide +kernel
theorem dL_areClaims_306 : decode cL_areClaims 306 = .ok (.if_icmp .ge 62, 3) := by decide +kernel
theorem dL_areClaims_309 : decode cL_areClaims 309 = .ok (.iload 4, 2) := by decide +kernel
theorem dL_areClaims_311 : decode cL_areClaims 311 = .ok (.ifCond .eq 57, 3) := by decide +kernel
theorem dL_areClaims_314 : decode cL_areClaims 314 = .ok (.iload 6, 2) := by decide +kernel
theorem dL_areClaims_316 : decode cL_areClaims 316 = .ok (.iconst 1, 1) := by decide +kernel
theorem dL_areClaims_317 : decode cL_areClaims 317 = .ok (.if_icmp .gt 38, 3) := by decide +kernel
theorem dL_areClaims_320 : decode cL_areClaims 320 = .ok (.aload_n 0, 1) := by decide +kernel
theorem dL_areClaims_321 : decode cL_areClaims 321 = .ok (.iload 9, 2) := by decide +kernel
theorem dL_areClaims_323 : decode cL_areClaims 323 = .ok (.iconst 4, 1) := by decide +kernel
theorem dL_areClaims_324 : decode cL_areClaims 324 = .ok (.invokevirtual 30, 3) := by decide +kernel
theorem dL_areClaims_327 : decode cL_areClaims 327 = .ok (.iconst 1, 1) := by decide +kernel
theorem dL_areClaims_328 : decode cL_areClaims 328 = .ok (.if_icmp .gt 27, 3) := by decide +kernel
theorem dL_areClaims_331 : decode cL_areClaims 331 = .ok (.aload_n 0, 1) := by decide +kernel
theorem dL_areClaims_332 : decode cL_areClaims 332 = .ok (.iload 9, 2) := by decide +kernel
theorem dL_areClaims_334 : decode cL_areClaims 334 = .ok (.iconst 0, 1) := by decide +kernel
theorem dL_areClaims_335 : decode cL_areClaims 335 = .ok (.invokevirtual 30, 3) := by decide +kernel
theorem dL_areClaims_338 : decode cL_areClaims 338 = .ok (.iload 8, 2) := by decide +kernel
theorem dL_areClaims_340 : decode cL_areClaims 340 = .ok (.if_icmp .ne 15, 3) := by decide +kernel
theorem dL_areClaims_343 : decode cL_areClaims 343 = .ok (.aload_n 0, 1) := by decide +kernel
theorem dL_areClaims_344 : decode cL_areClaims 344 = .ok (.iload 9, 2) := by decide +kernel
theorem dL_areClaims_346 : decode cL_areClaims 346 = .ok (.iconst 1, 1) := by decide +kernel
theorem dL_areClaims_347 : decode cL_areClaims 347 = .ok (.invokevirtual 30, 3) := by decide +kernel
theorem dL_areClaims_350 : decode cL_areClaims 350 = .ok (.iload 7, 2) := by decide +kernel
theorem dL_areClaims_352 : decode cL_areClaims 352 = .ok (.if_icmp .eq 7, 3) := by decide +kernel
theorem dL_areClaims_355 : decode cL_areClaims 355 = .ok (.iconst 1, 1) := by decide +kernel
theorem dL_areClaims_356 : decode cL_areClaims 356 = .ok (.goto 4, 3) := by decide +kernel
theorem dL_areClaims_359 : decode cL_areClaims 359 = .ok (.iconst 0, 1) := by decide +kernel
theorem dL_areClaims_360 : decode cL_areClaims 360 = .ok (.istore 4, 2) := by decide +kernel
theorem dL_areClaims_362 : decode cL_areClaims 362 = .ok (.iinc 9 1, 3) := by decide +kernel
theorem dL_areClaims_365 : decode cL_areClaims 365 = .ok (.goto (-63), 3) := by decide +kernel
theorem dL_areClaims_368 : decode cL_areClaims 368 = .ok (.iinc 5 1, 3) := by decide +kernel
theorem dL_areClaims_371 : decode cL_areClaims 371 = .ok (.goto (-341), 3) := by decide +kernel
theorem dL_areClaims_374 : decode cL_areClaims 374 = .ok (.iconst 0, 1) := by decide +kernel
theorem dL_areClaims_375 : decode cL_areClaims 375 = .ok (.istore 5, 2) := by decide +kernel
theorem dL_areClaims_377 : decode cL_areClaims 377 = .ok (.iconst 0, 1) := by decide +kernel
theorem dL_areClaims_378 : decode cL_areClaims 378 = .ok (.istore 6, 2) := by decide +kernel
theorem dL_areClaims_380 : decode cL_areClaims 380 = .ok (.iconst 0, 1) := by decide +kernel
theorem dL_areClaims_381 : decode cL_areClaims 381 = .ok (.istore 7, 2) := by decide +kernel
theorem dL_areClaims_383 : decode cL_areClaims 383 = .ok (.iload 7, 2) := by decide +kernel
theorem dL_areClaims_385 : decode cL_areClaims 385 = .ok (.bipush 16, 2) := by decide +kernel
theorem dL_areClaims_387 : decode cL_areClaims 387 = .ok (.if_icmp .ge 86, 3) := by decide +kernel
theorem dL_areClaims_390 : decode cL_areClaims 390 = .ok (.iload 4, 2) := by decide +kernel
theorem dL_areClaims_392 : decode cL_areClaims 392 = .ok (.ifCond .eq 81, 3) := by decide +kernel
theorem dL_areClaims_395 : decode cL_areClaims 395 = .ok (.iload 5, 2) := by decide +kernel
theorem dL_areClaims_397 : decode cL_areClaims 397 = .ok (.aload_n 0, 1) := by decide +kernel
theorem dL_areClaims_398 : decode cL_areClaims 398 = .ok (.iload 7, 2) := by decide +kernel
theorem dL_areClaims_400 : decode cL_areClaims 400 = .ok (.iconst 0, 1) := by decide +kernel
theorem dL_areClaims_401 : decode cL_areClaims 401 = .ok (.invokevirtual 27, 3) := by decide +kernel
theorem dL_areClaims_404 : decode cL_areClaims 404 = .ok (.iadd, 1) := by decide +kernel
theorem dL_areClaims_405 : decode cL_areClaims 405 = .ok (.istore 5, 2) := by decide +kernel
theorem dL_areClaims_407 : decode cL_areClaims 407 = .ok (.iload 6, 2) := by decide +kernel
theorem dL_areClaims_409 : decode cL_areClaims 409 = .ok (.aload_n 0, 1) := by decide +kernel
theorem dL_areClaims_410 : decode cL_areClaims 410 = .ok (.iload 7, 2) := by decide +kernel
theorem dL_areClaims_412 : decode cL_areClaims 412 = .ok (.iconst 0, 1) := by decide +kernel
theorem dL_areClaims_413 : decode cL_areClaims 413 = .ok (.invokevirtual 27, 3) := by decide +kernel
theorem dL_areClaims_416 : decode cL_areClaims 416 = .ok (.ifCond .le 7, 3) := by decide +kernel
theorem dL_areClaims_419 : decode cL_areClaims 419 = .ok (.iconst 1, 1) := by decide +kernel
theorem dL_areClaims_420 : decode cL_areClaims 420 = .ok (.goto 4, 3) := by decide +kernel
theorem dL_areClaims_423 : decode cL_areClaims 423 = .ok (.iconst 0, 1) := by decide +kernel
theorem dL_areClaims_424 : decode cL_areClaims 424 = .ok (.iadd, 1) := by decide +kernel
theorem dL_areClaims_425 : decode cL_areClaims 425 = .ok (.istore 6, 2) := by decide +kernel
theorem dL_areClaims_427 : decode cL_areClaims 427 = .ok (.aload_n 0, 1) := by decide +kernel
theorem dL_areClaims_428 : decode cL_areClaims 428 = .ok (.iload 7, 2) := by decide +kernel
theorem dL_areClaims_430 : decode cL_areClaims 430 = .ok (.iconst 0, 1) := by decide +kernel
theorem dL_areClaims_431 : decode cL_areClaims 431 = .ok (.invokevirtual 27, 3) := by decide +kernel
theorem dL_areClaims_434 : decode cL_areClaims 434 = .ok (.ifCond .le 7, 3) := by decide +kernel
theorem dL_areClaims_437 : decode cL_areClaims 437 = .ok (.iconst 1, 1) := by decide +kernel
theorem dL_areClaims_438 : decode cL_areClaims 438 = .ok (.goto 4, 3) := by decide +kernel
theorem dL_areClaims_441 : decode cL_areClaims 441 = .ok (.iconst 0, 1) := by decide +kernel
theorem dL_areClaims_442 : decode cL_areClaims 442 = .ok (.aload_n 0, 1) := by decide +kernel
theorem dL_areClaims_443 : decode cL_areClaims 443 = .ok (.iload 7, 2) := by decide +kernel
theorem dL_areClaims_445 : decode cL_areClaims 445 = .ok (.iconst 3, 1) := by decide +kernel
theorem dL_areClaims_446 : decode cL_areClaims 446 = .ok (.invokevirtual 27, 3) := by decide +kernel
theorem dL_areClaims_449 : decode cL_areClaims 449 = .ok (.ifCond .eq 7, 3) := by decide +kernel
theorem dL_areClaims_452 : decode cL_areClaims 452 = .ok (.iconst 1, 1) := by decide +kernel
theorem dL_areClaims_453 : decode cL_areClaims 453 = .ok (.goto 4, 3) := by decide +kernel
theorem dL_areClaims_456 : decode cL_areClaims 456 = .ok (.iconst 0, 1) := by decide +kernel
theorem dL_areClaims_457 : decode cL_areClaims 457 = .ok (.if_icmp .ne 7, 3) := by decide +kernel
theorem dL_areClaims_460 : decode cL_areClaims 460 = .ok (.iconst 1, 1) := by decide +kernel
theorem dL_areClaims_461 : decode cL_areClaims 461 = .ok (.goto 4, 3) := by decide +kernel
theorem dL_areClaims_464 : decode cL_areClaims 464 = .ok (.iconst 0, 1) := by decide +kernel
theorem dL_areClaims_465 : decode cL_areClaims 465 = .ok (.istore 4, 2) := by decide +kernel
theorem dL_areClaims_467 : decode cL_areClaims 467 = .ok (.iinc 7 1, 3) := by decide +kernel
theorem dL_areClaims_470 : decode cL_areClaims 470 = .ok (.goto (-87), 3) := by decide +kernel
theorem dL_areClaims_473 : decode cL_areClaims 473 = .ok (.iload 4, 2) := by decide +kernel
theorem dL_areClaims_475 : decode cL_areClaims 475 = .ok (.ifCond .eq 63, 3) := by decide +kernel
theorem dL_areClaims_478 : decode cL_areClaims 478 = .ok (.iload 5, 2) := by decide +kernel
theorem dL_areClaims_480 : decode cL_areClaims 480 = .ok (.aload_n 0, 1) := by decide +kernel
theorem dL_areClaims_481 : decode cL_areClaims 481 = .ok (.bipush 11, 2) := by decide +kernel
theorem dL_areClaims_483 : decode cL_areClaims 483 = .ok (.invokevirtual 14, 3) := by decide +kernel
theorem dL_areClaims_486 : decode cL_areClaims 486 = .ok (.if_icmp .ne 52, 3) := by decide +kernel
theorem dL_areClaims_489 : decode cL_areClaims 489 = .ok (.iload_n 3, 1) := by decide +kernel
theorem dL_areClaims_490 : decode cL_areClaims 490 = .ok (.iload 5, 2) := by decide +kernel
theorem dL_areClaims_492 : decode cL_areClaims 492 = .ok (.if_icmp .ne 46, 3) := by decide +kernel
theorem dL_areClaims_495 : decode cL_areClaims 495 = .ok (.iload_n 2, 1) := by decide +kernel
theorem dL_areClaims_496 : decode cL_areClaims 496 = .ok (.aload_n 0, 1) := by decide +kernel
theorem dL_areClaims_497 : decode cL_areClaims 497 = .ok (.bipush 12, 2) := by decide +kernel
theorem dL_areClaims_499 : decode cL_areClaims 499 = .ok (.invokevirtual 14, 3) := by decide +kernel
theorem dL_areClaims_502 : decode cL_areClaims 502 = .ok (.if_icmp .ne 36, 3) := by decide +kernel
theorem dL_areClaims_505 : decode cL_areClaims 505 = .ok (.aload_n 0, 1) := by decide +kernel
theorem dL_areClaims_506 : decode cL_areClaims 506 = .ok (.iload 6, 2) := by decide +kernel
theorem dL_areClaims_508 : decode cL_areClaims 508 = .ok (.invokevirtual 20, 3) := by decide +kernel
theorem dL_areClaims_511 : decode cL_areClaims 511 = .ok (.iconst (-1), 1) := by decide +kernel
theorem dL_areClaims_512 : decode cL_areClaims 512 = .ok (.if_icmp .ne 26, 3) := by decide +kernel
theorem dL_areClaims_515 : decode cL_areClaims 515 = .ok (.aload_n 0, 1) := by decide +kernel
theorem dL_areClaims_516 : decode cL_areClaims 516 = .ok (.iconst (-1), 1) := by decide +kernel
theorem dL_areClaims_517 : decode cL_areClaims 517 = .ok (.invokevirtual 20, 3) := by decide +kernel
theorem dL_areClaims_520 : decode cL_areClaims 520 = .ok (.iconst (-1), 1) := by decide +kernel
theorem dL_areClaims_521 : decode cL_areClaims 521 = .ok (.if_icmp .ne 17, 3) := by decide +kernel
theorem dL_areClaims_524 : decode cL_areClaims 524 = .ok (.aload_n 0, 1) := by decide +kernel
theorem dL_areClaims_525 : decode cL_areClaims 525 = .ok (.bipush 13, 2) := by decide +kernel
theorem dL_areClaims_527 : decode cL_areClaims 527 = .ok (.invokevirtual 14, 3) := by decide +kernel
theorem dL_areClaims_530 : decode cL_areClaims 530 = .ok (.iload_n 1, 1) := by decide +kernel
theorem dL_areClaims_531 : decode cL_areClaims 531 = .ok (.if_icmp .gt 7, 3) := by decide +kernel
theorem dL_areClaims_534 : decode cL_areClaims 534 = .ok (.iconst 1, 1) := by decide +kernel
theorem dL_areClaims_535 : decode cL_areClaims 535 = .ok (.goto 4, 3) := by decide +kernel
theorem dL_areClaims_538 : decode cL_areClaims 538 = .ok (.iconst 0, 1) := by decide +kernel
theorem dL_areClaims_539 : decode cL_areClaims 539 = .ok (.istore 4, 2) := by decide +kernel
theorem dL_areClaims_541 : decode cL_areClaims 541 = .ok (.iconst 0, 1) := by decide +kernel
theorem dL_areClaims_542 : decode cL_areClaims 542 = .ok (.istore 7, 2) := by decide +kernel
theorem dL_areClaims_544 : decode cL_areClaims 544 = .ok (.iconst 0, 1) := by decide +kernel
theorem dL_areClaims_545 : decode cL_areClaims 545 = .ok (.istore 8, 2) := by decide +kernel
theorem dL_areClaims_547 : decode cL_areClaims 547 = .ok (.iload 8, 2) := by decide +kernel
theorem dL_areClaims_549 : decode cL_areClaims 549 = .ok (.iload 6, 2) := by decide +kernel
theorem dL_areClaims_551 : decode cL_areClaims 551 = .ok (.if_icmp .ge 72, 3) := by decide +kernel
theorem dL_areClaims_554 : decode cL_areClaims 554 = .ok (.iload 4, 2) := by decide +kernel
theorem dL_areClaims_556 : decode cL_areClaims 556 = .ok (.ifCond .eq 67, 3) := by decide +kernel
theorem dL_areClaims_559 : decode cL_areClaims 559 = .ok (.aload_n 0, 1) := by decide +kernel
theorem dL_areClaims_560 : decode cL_areClaims 560 = .ok (.iload 8, 2) := by decide +kernel
theorem dL_areClaims_562 : decode cL_areClaims 562 = .ok (.invokevirtual 20, 3) := by decide +kernel
theorem dL_areClaims_565 : decode cL_areClaims 565 = .ok (.istore 9, 2) := by decide +kernel
theorem dL_areClaims_567 : decode cL_areClaims 567 = .ok (.iload 9, 2) := by decide +kernel
theorem dL_areClaims_569 : decode cL_areClaims 569 = .ok (.ifCond .lt 27, 3) := by decide +kernel
theorem dL_areClaims_572 : decode cL_areClaims 572 = .ok (.iload 7, 2) := by decide +kernel
theorem dL_areClaims_574 : decode cL_areClaims 574 = .ok (.iload 9, 2) := by decide +kernel
theorem dL_areClaims_576 : decode cL_areClaims 576 = .ok (.ishr, 1) := by decide +kernel
theorem dL_areClaims_577 : decode cL_areClaims 577 = .ok (.iconst 1, 1) := by decide +kernel
theorem dL_areClaims_578 : decode cL_areClaims 578 = .ok (.iand, 1) := by decide +kernel
theorem dL_areClaims_579 : decode cL_areClaims 579 = .ok (.ifCond .ne 17, 3) := by decide +kernel
theorem dL_areClaims_582 : decode cL_areClaims 582 = .ok (.aload_n 0, 1) := by decide +kernel
theorem dL_areClaims_583 : decode cL_areClaims 583 = .ok (.iload 9, 2) := by decide +kernel
theorem dL_areClaims_585 : decode cL_areClaims 585 = .ok (.iconst 0, 1) := by decide +kernel
theorem dL_areClaims_586 : decode cL_areClaims 586 = .ok (.invokevirtual 27, 3) := by decide +kernel
theorem dL_areClaims_589 : decode cL_areClaims 589 = .ok (.ifCond .le 7, 3) := by decide +kernel
theorem dL_areClaims_592 : decode cL_areClaims 592 = .ok (.iconst 1, 1) := by decide +kernel
theorem dL_areClaims_593 : decode cL_areClaims 593 = .ok (.goto 4, 3) := by decide +kernel
theorem dL_areClaims_596 : decode cL_areClaims 596 = .ok (.iconst 0, 1) := by decide +kernel
theorem dL_areClaims_597 : decode cL_areClaims 597 = .ok (.istore 4, 2) := by decide +kernel
theorem dL_areClaims_599 : decode cL_areClaims 599 = .ok (.iload 7, 2) := by decide +kernel
theorem dL_areClaims_601 : decode cL_areClaims 601 = .ok (.iload 4, 2) := by decide +kernel
theorem dL_areClaims_603 : decode cL_areClaims 603 = .ok (.ifCond .eq 10, 3) := by decide +kernel
theorem dL_areClaims_606 : decode cL_areClaims 606 = .ok (.iconst 1, 1) := by decide +kernel
theorem dL_areClaims_607 : decode cL_areClaims 607 = .ok (.iload 9, 2) := by decide +kernel
theorem dL_areClaims_609 : decode cL_areClaims 609 = .ok (.ishl, 1) := by decide +kernel
theorem dL_areClaims_610 : decode cL_areClaims 610 = .ok (.goto 4, 3) := by decide +kernel
theorem dL_areClaims_613 : decode cL_areClaims 613 = .ok (.iconst 0, 1) := by decide +kernel
theorem dL_areClaims_614 : decode cL_areClaims 614 = .ok (.ior, 1) := by decide +kernel
theorem dL_areClaims_615 : decode cL_areClaims 615 = .ok (.istore 7, 2) := by decide +kernel
theorem dL_areClaims_617 : decode cL_areClaims 617 = .ok (.iinc 8 1, 3) := by decide +kernel
theorem dL_areClaims_620 : decode cL_areClaims 620 = .ok (.goto (-73), 3) := by decide +kernel
theorem dL_areClaims_623 : decode cL_areClaims 623 = .ok (.aload_n 0, 1) := by decide +kernel
theorem dL_areClaims_624 : decode cL_areClaims 624 = .ok (.iconst 0, 1) := by decide +kernel
theorem dL_areClaims_625 : decode cL_areClaims 625 = .ok (.invokevirtual 44, 3) := by decide +kernel
theorem dL_areClaims_628 : decode cL_areClaims 628 = .ok (.istore 8, 2) := by decide +kernel
theorem dL_areClaims_630 : decode cL_areClaims 630 = .ok (.aload_n 0, 1) := by decide +kernel
theorem dL_areClaims_631 : decode cL_areClaims 631 = .ok (.iconst 1, 1) := by decide +kernel
theorem dL_areClaims_632 : decode cL_areClaims 632 = .ok (.invokevirtual 44, 3) := by decide +kernel
theorem dL_areClaims_635 : decode cL_areClaims 635 = .ok (.istore 9, 2) := by decide +kernel
theorem dL_areClaims_637 : decode cL_areClaims 637 = .ok (.iload 4, 2) := by decide +kernel
theorem dL_areClaims_639 : decode cL_areClaims 639 = .ok (.ifCond .eq 56, 3) := by decide +kernel
theorem dL_areClaims_642 : decode cL_areClaims 642 = .ok (.iload 8, 2) := by decide +kernel
theorem dL_areClaims_644 : decode cL_areClaims 644 = .ok (.bipush (-6), 2) := by decide +kernel
theorem dL_areClaims_646 : decode cL_areClaims 646 = .ok (.if_icmp .ne 7, 3) := by decide +kernel
theorem dL_areClaims_649 : decode cL_areClaims 649 = .ok (.iconst 1, 1) := by decide +kernel
theorem dL_areClaims_650 : decode cL_areClaims 650 = .ok (.goto 4, 3) := by decide +kernel
theorem dL_areClaims_653 : decode cL_areClaims 653 = .ok (.iconst 0, 1) := by decide +kernel
theorem dL_areClaims_654 : decode cL_areClaims 654 = .ok (.iload 9, 2) := by decide +kernel
theorem dL_areClaims_656 : decode cL_areClaims 656 = .ok (.bipush (-6), 2) := by decide +kernel
theorem dL_areClaims_658 : decode cL_areClaims 658 = .ok (.if_icmp .ne 7, 3) := by decide +kernel
theorem dL_areClaims_661 : decode cL_areClaims 661 = .ok (.iconst 1, 1) := by decide +kernel
theorem dL_areClaims_662 : decode cL_areClaims 662 = .ok (.goto 4, 3) := by decide +kernel
theorem dL_areClaims_665 : decode cL_areClaims 665 = .ok (.iconst 0, 1) := by decide +kernel
theorem dL_areClaims_666 : decode cL_areClaims 666 = .ok (.if_icmp .ne 29, 3) := by decide +kernel
theorem dL_areClaims_669 : decode cL_areClaims 669 = .ok (.iload 9, 2) := by decide +kernel
theorem dL_areClaims_671 : decode cL_areClaims 671 = .ok (.bipush (-6), 2) := by decide +kernel
theorem dL_areClaims_673 : decode cL_areClaims 673 = .ok (.if_icmp .eq 18, 3) := by decide +kernel
theorem dL_areClaims_676 : decode cL_areClaims 676 = .ok (.aload_n 0, 1) := by decide +kernel
theorem dL_areClaims_677 : decode cL_areClaims 677 = .ok (.iload 9, 2) := by decide +kernel
theorem dL_areClaims_679 : decode cL_areClaims 679 = .ok (.iconst 4, 1) := by decide +kernel
theorem dL_areClaims_680 : decode cL_areClaims 680 = .ok (.invokevirtual 30, 3) := by decide +kernel
theorem dL_areClaims_683 : decode cL_areClaims 683 = .ok (.ifCond .ne 12, 3) := by decide +kernel
theorem dL_areClaims_686 : decode cL_areClaims 686 = .ok (.iload 8, 2) := by decide +kernel
theorem dL_areClaims_688 : decode cL_areClaims 688 = .ok (.ifCond .le 7, 3) := by decide +kernel
theorem dL_areClaims_691 : decode cL_areClaims 691 = .ok (.iconst 1, 1) := by decide +kernel
theorem dL_areClaims_692 : decode cL_areClaims 692 = .ok (.goto 4, 3) := by decide +kernel
theorem dL_areClaims_695 : decode cL_areClaims 695 = .ok (.iconst 0, 1) := by decide +kernel
theorem dL_areClaims_696 : decode cL_areClaims 696 = .ok (.ireturn, 1) := by decide +kernel
theorem dL_refusesAny_0 : decode cL_refusesAny 0 = .ok (.iload_n 1, 1) := by decide +kernel
theorem dL_refusesAny_1 : decode cL_refusesAny 1 = .ok (.iconst 2, 1) := by decide +kernel
theorem dL_refusesAny_2 : decode cL_refusesAny 2 = .ok (.irem, 1) := by decide +kernel
theorem dL_refusesAny_3 : decode cL_refusesAny 3 = .ok (.ifCond .ne 12, 3) := by decide +kernel
theorem dL_refusesAny_6 : decode cL_refusesAny 6 = .ok (.iconst (-1), 1) := by decide +kernel
theorem dL_refusesAny_7 : decode cL_refusesAny 7 = .ok (.iload_n 1, 1) := by decide +kernel
theorem dL_refusesAny_8 : decode cL_refusesAny 8 = .ok (.bipush 99, 2) := by decide +kernel
theorem dL_refusesAny_10 : decode cL_refusesAny 10 = .ok (.irem, 1) := by decide +kernel
theorem dL_refusesAny_11 : decode cL_refusesAny 11 = .ok (.isub, 1) := by decide +kernel
theorem dL_refusesAny_12 : decode cL_refusesAny 12 = .ok (.goto 13, 3) := by decide +kernel
theorem dL_refusesAny_15 : decode cL_refusesAny 15 = .ok (.aload_n 0, 1) := by decide +kernel
theorem dL_refusesAny_16 : decode cL_refusesAny 16 = .ok (.iconst 1, 1) := by decide +kernel
theorem dL_refusesAny_17 : decode cL_refusesAny 17 = .ok (.invokevirtual 14, 3) := by decide +kernel
theorem dL_refusesAny_20 : decode cL_refusesAny 20 = .ok (.iload_n 1, 1) := by decide +kernel
theorem dL_refusesAny_21 : decode cL_refusesAny 21 = .ok (.bipush 99, 2) := by decide +kernel
theorem dL_refusesAny_23 : decode cL_refusesAny 23 = .ok (.irem, 1) := by decide +kernel
theorem dL_refusesAny_24 : decode cL_refusesAny 24 = .ok (.iadd, 1) := by decide +kernel
theorem dL_refusesAny_25 : decode cL_refusesAny 25 = .ok (.istore_n 2, 1) := by decide +kernel
theorem dL_refusesAny_26 : decode cL_refusesAny 26 = .ok (.iload_n 1, 1) := by decide +kernel
theorem dL_refusesAny_27 : decode cL_refusesAny 27 = .ok (.iconst 2, 1) := by decide +kernel
theorem dL_refusesAny_28 : decode cL_refusesAny 28 = .ok (.irem, 1) := by decide +kernel
theorem dL_refusesAny_29 : decode cL_refusesAny 29 = .ok (.ifCond .ne 12, 3) := by decide +kernel
theorem dL_refusesAny_32 : decode cL_refusesAny 32 = .ok (.iconst (-1), 1) := by decide +kernel
theorem dL_refusesAny_33 : decode cL_refusesAny 33 = .ok (.iload_n 1, 1) := by decide +kernel
theorem dL_refusesAny_34 : decode cL_refusesAny 34 = .ok (.bipush 99, 2) := by decide +kernel
theorem dL_refusesAny_36 : decode cL_refusesAny 36 = .ok (.irem, 1) := by decide +kernel
theorem dL_refusesAny_37 : decode cL_refusesAny 37 = .ok (.isub, 1) := by decide +kernel
theorem dL_refusesAny_38 : decode cL_refusesAny 38 = .ok (.goto 13, 3) := by decide +kernel
theorem dL_refusesAny_41 : decode cL_refusesAny 41 = .ok (.aload_n 0, 1) := by decide +kernel
theorem dL_refusesAny_42 : decode cL_refusesAny 42 = .ok (.iconst 2, 1) := by decide +kernel
theorem dL_refusesAny_43 : decode cL_refusesAny 43 = .ok (.invokevirtual 14, 3) := by decide +kernel
theorem dL_refusesAny_46 : decode cL_refusesAny 46 = .ok (.iload_n 1, 1) := by decide +kernel
theorem dL_refusesAny_47 : decode cL_refusesAny 47 = .ok (.bipush 99, 2) := by decide +kernel
theorem dL_refusesAny_49 : decode cL_refusesAny 49 = .ok (.irem, 1) := by decide +kernel
theorem dL_refusesAny_50 : decode cL_refusesAny 50 = .ok (.iadd, 1) := by decide +kernel
theorem dL_refusesAny_51 : decode cL_refusesAny 51 = .ok (.istore_n 3, 1) := by decide +kernel
theorem dL_refusesAny_52 : decode cL_refusesAny 52 = .ok (.iload_n 1, 1) := by decide +kernel
theorem dL_refusesAny_53 : decode cL_refusesAny 53 = .ok (.iconst 2, 1) := by decide +kernel
theorem dL_refusesAny_54 : decode cL_refusesAny 54 = .ok (.irem, 1) := by decide +kernel
theorem dL_refusesAny_55 : decode cL_refusesAny 55 = .ok (.ifCond .ne 12, 3) := by decide +kernel
theorem dL_refusesAny_58 : decode cL_refusesAny 58 = .ok (.iconst (-1), 1) := by decide +kernel
theorem dL_refusesAny_59 : decode cL_refusesAny 59 = .ok (.iload_n 1, 1) := by decide +kernel
theorem dL_refusesAny_60 : decode cL_refusesAny 60 = .ok (.bipush 99, 2) := by decide +kernel
theorem dL_refusesAny_62 : decode cL_refusesAny 62 = .ok (.irem, 1) := by decide +kernel
theorem dL_refusesAny_63 : decode cL_refusesAny 63 = .ok (.isub, 1) := by decide +kernel
theorem dL_refusesAny_64 : decode cL_refusesAny 64 = .ok (.goto 10, 3) := by decide +kernel
theorem dL_refusesAny_67 : decode cL_refusesAny 67 = .ok (.bipush 16, 2) := by decide +kernel
theorem dL_refusesAny_69 : decode cL_refusesAny 69 = .ok (.iload_n 1, 1) := by decide +kernel
theorem dL_refusesAny_70 : decode cL_refusesAny 70 = .ok (.bipush 99, 2) := by decide +kernel
theorem dL_refusesAny_72 : decode cL_refusesAny 72 = .ok (.irem, 1) := by decide +kernel
theorem dL_refusesAny_73 : decode cL_refusesAny 73 = .ok (.iadd, 1) := by decide +kernel
theorem dL_refusesAny_74 : decode cL_refusesAny 74 = .ok (.istore 4, 2) := by decide +kernel
theorem dL_refusesAny_76 : decode cL_refusesAny 76 = .ok (.aload_n 0, 1) := by decide +kernel
theorem dL_refusesAny_77 : decode cL_refusesAny 77 = .ok (.iconst 1, 1) := by decide +kernel
theorem dL_refusesAny_78 : decode cL_refusesAny 78 = .ok (.invokevirtual 14, 3) := by decide +kernel
theorem dL_refusesAny_81 : decode cL_refusesAny 81 = .ok (.ifCond .le 7, 3) := by decide +kernel
theorem dL_refusesAny_84 : decode cL_refusesAny 84 = .ok (.iconst 1, 1) := by decide +kernel
theorem dL_refusesAny_85 : decode cL_refusesAny 85 = .ok (.goto 4, 3) := by decide +kernel
theorem dL_refusesAny_88 : decode cL_refusesAny 88 = .ok (.iconst 0, 1) := by decide +kernel
theorem dL_refusesAny_89 : decode cL_refusesAny 89 = .ok (.istore 5, 2) := by decide +kernel
theorem dL_refusesAny_91 : decode cL_refusesAny 91 = .ok (.aload_n 0, 1) := by decide +kernel
theorem dL_refusesAny_92 : decode cL_refusesAny 92 = .ok (.iload_n 1, 1) := by decide +kernel
theorem dL_refusesAny_93 : decode cL_refusesAny 93 = .ok (.iconst 2, 1) := by decide +kernel
theorem dL_refusesAny_94 : decode cL_refusesAny 94 = .ok (.irem, 1) := by decide +kernel
theorem dL_refusesAny_95 : decode cL_refusesAny 95 = .ok (.ifCond .ne 7, 3) := by decide +kernel
theorem dL_refusesAny_98 : decode cL_refusesAny 98 = .ok (.iconst (-1), 1) := by decide +kernel
theorem dL_refusesAny_99 : decode cL_refusesAny 99 = .ok (.goto 4, 3) := by decide +kernel
theorem dL_refusesAny_102 : decode cL_refusesAny 102 = .ok (.iconst 5, 1) := by decide +kernel
theorem dL_refusesAny_103 : decode cL_refusesAny 103 = .ok (.iconst 5, 1) := by decide +kernel
theorem dL_refusesAny_104 : decode cL_refusesAny 104 = .ok (.invokevirtual 47, 3) := by decide +kernel
theorem dL_refusesAny_107 : decode cL_refusesAny 107 = .ok (.bipush (-2), 2) := by decide +kernel
theorem dL_refusesAny_109 : decode cL_refusesAny 109 = .ok (.if_icmp .ne 429, 3) := by decide +kernel
theorem dL_refusesAny_112 : decode cL_refusesAny 112 = .ok (.aload_n 0, 1) := by decide +kernel
theorem dL_refusesAny_113 : decode cL_refusesAny 113 = .ok (.iconst 0, 1) := by decide +kernel
theorem dL_refusesAny_114 : decode cL_refusesAny 114 = .ok (.iload_n 1, 1) := by decide +kernel
theorem dL_refusesAny_115 : decode cL_refusesAny 115 = .ok (.iconst 2, 1) := by decide +kernel
theorem dL_refusesAny_116 : decode cL_refusesAny 116 = .ok (.irem, 1) := by decide +kernel
theorem dL_refusesAny_117 : decode cL_refusesAny 117 = .ok (.ifCond .ne 7, 3) := by decide +kernel
theorem dL_refusesAny_120 : decode cL_refusesAny 120 = .ok (.iconst 0, 1) := by decide +kernel
theorem dL_refusesAny_121 : decode cL_refusesAny 121 = .ok (.goto 6, 3) := by decide +kernel
theorem dL_refusesAny_124 : decode cL_refusesAny 124 = .ok (.sipush 401, 3) := by decide +kernel
theorem dL_refusesAny_127 : decode cL_refusesAny 127 = .ok (.invokevirtual 47, 3) := by decide +kernel
theorem dL_refusesAny_130 : decode cL_refusesAny 130 = .ok (.bipush (-2), 2) := by decide +kernel
theorem dL_refusesAny_132 : decode cL_refusesAny 132 = .ok (.if_icmp .ne 406, 3) := by decide +kernel
theorem dL_refusesAny_135 : decode cL_refusesAny 135 = .ok (.aload_n 0, 1) := by decide +kernel
theorem dL_refusesAny_136 : decode cL_refusesAny 136 = .ok (.iconst 1, 1) := by decide +kernel
theorem dL_refusesAny_137 : decode cL_refusesAny 137 = .ok (.iload_n 1, 1) := by decide +kernel
theorem dL_refusesAny_138 : decode cL_refusesAny 138 = .ok (.iconst 2, 1) := by decide +kernel
theorem dL_refusesAny_139 : decode cL_refusesAny 139 = .ok (.irem, 1) := by decide +kernel
theorem dL_refusesAny_140 : decode cL_refusesAny 140 = .ok (.ifCond .ne 7, 3) := by decide +kernel
theorem dL_refusesAny_143 : decode cL_refusesAny 143 = .ok (.iconst 0, 1) := by decide +kernel
theorem dL_refusesAny_144 : decode cL_refusesAny 144 = .ok (.goto 5, 3) := by decide +kernel
theorem dL_refusesAny_147 : decode cL_refusesAny 147 = .ok (.bipush 101, 2) := by decide +kernel
theorem dL_refusesAny_149 : decode cL_refusesAny 149 = .ok (.invokevirtual 47, 3) := by decide +kernel
theorem dL_refusesAny_152 : decode cL_refusesAny 152 = .ok (.bipush (-2), 2) := by decide +kernel
theorem dL_refusesAny_154 : decode cL_refusesAny 154 = .ok (.if_icmp .ne 384, 3) := by decide +kernel
theorem dL_refusesAny_157 : decode cL_refusesAny 157 = .ok (.aload_n 0, 1) := by decide +kernel
theorem dL_refusesAny_158 : decode cL_refusesAny 158 = .ok (.iconst 2, 1) := by decide +kernel
theorem dL_refusesAny_159 : decode cL_refusesAny 159 = .ok (.iload_n 1, 1) := by decide +kernel
theorem dL_refusesAny_160 : decode cL_refusesAny 160 = .ok (.iconst 2, 1) := by decide +kernel
theorem dL_refusesAny_161 : decode cL_refusesAny 161 = .ok (.irem, 1) := by decide +kernel
theorem dL_refusesAny_162 : decode cL_refusesAny 162 = .ok (.ifCond .ne 7, 3) := by decide +kernel
theorem dL_refusesAny_165 : decode cL_refusesAny 165 = .ok (.iconst 0, 1) := by decide +kernel
theorem dL_refusesAny_166 : decode cL_refusesAny 166 = .ok (.goto 6, 3) := by decide +kernel
theorem dL_refusesAny_169 : decode cL_refusesAny 169 = .ok (.sipush 201, 3) := by decide +kernel
theorem dL_refusesAny_172 : decode cL_refusesAny 172 = .ok (.invokevirtual 47, 3) := by decide +kernel
theorem dL_refusesAny_175 : decode cL_refusesAny 175 = .ok (.bipush (-2), 2) := by decide +kernel
theorem dL_refusesAny_177 : decode cL_refusesAny 177 = .ok (.if_icmp .ne 361, 3) := by decide +kernel
theorem dL_refusesAny_180 : decode cL_refusesAny 180 = .ok (.aload_n 0, 1) := by decide +kernel
theorem dL_refusesAny_181 : decode cL_refusesAny 181 = .ok (.iconst 3, 1) := by decide +kernel
theorem dL_refusesAny_182 : decode cL_refusesAny 182 = .ok (.iload_n 1, 1) := by decide +kernel
theorem dL_refusesAny_183 : decode cL_refusesAny 183 = .ok (.iconst 2, 1) := by decide +kernel
theorem dL_refusesAny_184 : decode cL_refusesAny 184 = .ok (.irem, 1) := by decide +kernel
theorem dL_refusesAny_185 : decode cL_refusesAny 185 = .ok (.ifCond .ne 7, 3) := by decide +kernel
theorem dL_refusesAny_188 : decode cL_refusesAny 188 = .ok (.iconst (-1), 1) := by decide +kernel
theorem dL_refusesAny_189 : decode cL_refusesAny 189 = .ok (.goto 6, 3) := by decide +kernel
theorem dL_refusesAny_192 : decode cL_refusesAny 192 = .ok (.sipush 401, 3) := by decide +kernel
theorem dL_refusesAny_195 : decode cL_refusesAny 195 = .ok (.invokevirtual 47, 3) := by decide +kernel
theorem dL_refusesAny_198 : decode cL_refusesAny 198 = .ok (.bipush (-2), 2) := by decide +kernel
theorem dL_refusesAny_200 : decode cL_refusesAny 200 = .ok (.if_icmp .ne 338, 3) := by decide +kernel
theorem dL_refusesAny_203 : decode cL_refusesAny 203 = .ok (.aload_n 0, 1) := by decide +kernel
theorem dL_refusesAny_204 : decode cL_refusesAny 204 = .ok (.iconst 4, 1) := by decide +kernel
theorem dL_refusesAny_205 : decode cL_refusesAny 205 = .ok (.iload_n 1, 1) := by decide +kernel
theorem dL_refusesAny_206 : decode cL_refusesAny 206 = .ok (.iconst 2, 1) := by decide +kernel
theorem dL_refusesAny_207 : decode cL_refusesAny 207 = .ok (.irem, 1) := by decide +kernel
theorem dL_refusesAny_208 : decode cL_refusesAny 208 = .ok (.ifCond .ne 7, 3) := by decide +kernel
theorem dL_refusesAny_211 : decode cL_refusesAny 211 = .ok (.iconst (-1), 1) := by decide +kernel
theorem dL_refusesAny_212 : decode cL_refusesAny 212 = .ok (.goto 5, 3) := by decide +kernel
theorem dL_refusesAny_215 : decode cL_refusesAny 215 = .ok (.bipush 51, 2) := by decide +kernel
theorem dL_refusesAny_217 : decode cL_refusesAny 217 = .ok (.invokevirtual 47, 3) := by decide +kernel
theorem dL_refusesAny_220 : decode cL_refusesAny 220 = .ok (.bipush (-2), 2) := by decide +kernel
theorem dL_refusesAny_222 : decode cL_refusesAny 222 = .ok (.if_icmp .ne 316, 3) := by decide +kernel
theorem dL_refusesAny_225 : decode cL_refusesAny 225 = .ok (.aload_n 0, 1) := by decide +kernel
theorem dL_refusesAny_226 : decode cL_refusesAny 226 = .ok (.iload_n 1, 1) := by decide +kernel
theorem dL_refusesAny_227 : decode cL_refusesAny 227 = .ok (.iconst 2, 1) := by decide +kernel
theorem dL_refusesAny_228 : decode cL_refusesAny 228 = .ok (.irem, 1) := by decide +kernel
theorem dL_refusesAny_229 : decode cL_refusesAny 229 = .ok (.ifCond .ne 7, 3) := by decide +kernel
theorem dL_refusesAny_232 : decode cL_refusesAny 232 = .ok (.iconst 0, 1) := by decide +kernel
theorem dL_refusesAny_233 : decode cL_refusesAny 233 = .ok (.goto 6, 3) := by decide +kernel
theorem dL_refusesAny_236 : decode cL_refusesAny 236 = .ok (.sipush 10000, 3) := by decide +kernel
theorem dL_refusesAny_239 : decode cL_refusesAny 239 = .ok (.invokevirtual 50, 3) := by decide +kernel
theorem dL_refusesAny_242 : decode cL_refusesAny 242 = .ok (.bipush (-2), 2) := by decide +kernel
theorem dL_refusesAny_244 : decode cL_refusesAny 244 = .ok (.if_icmp .ne 294, 3) := by decide +kernel
theorem dL_refusesAny_247 : decode cL_refusesAny 247 = .ok (.aload_n 0, 1) := by decide +kernel
theorem dL_refusesAny_248 : decode cL_refusesAny 248 = .ok (.iconst 1, 1) := by decide +kernel
theorem dL_refusesAny_249 : decode cL_refusesAny 249 = .ok (.invokevirtual 14, 3) := by decide +kernel
theorem dL_refusesAny_252 : decode cL_refusesAny 252 = .ok (.bipush 12, 2) := by decide +kernel
theorem dL_refusesAny_254 : decode cL_refusesAny 254 = .ok (.if_icmp .lt 13, 3) := by decide +kernel
theorem dL_refusesAny_257 : decode cL_refusesAny 257 = .ok (.aload_n 0, 1) := by decide +kernel
theorem dL_refusesAny_258 : decode cL_refusesAny 258 = .ok (.iconst 5, 1) := by decide +kernel
theorem dL_refusesAny_259 : decode cL_refusesAny 259 = .ok (.invokevirtual 50, 3) := by decide +kernel
theorem dL_refusesAny_262 : decode cL_refusesAny 262 = .ok (.bipush (-4), 2) := by decide +kernel
theorem dL_refusesAny_264 : decode cL_refusesAny 264 = .ok (.if_icmp .ne 274, 3) := by decide +kernel
theorem dL_refusesAny_267 : decode cL_refusesAny 267 = .ok (.aload_n 0, 1) := by decide +kernel
theorem dL_refusesAny_268 : decode cL_refusesAny 268 = .ok (.iload_n 2, 1) := by decide +kernel
theorem dL_refusesAny_269 : decode cL_refusesAny 269 = .ok (.invokevirtual 53, 3) := by decide +kernel
theorem dL_refusesAny_272 : decode cL_refusesAny 272 = .ok (.iconst (-1), 1) := by decide +kernel
theorem dL_refusesAny_273 : decode cL_refusesAny 273 = .ok (.if_icmp .ne 265, 3) := by decide +kernel
theorem dL_refusesAny_276 : decode cL_refusesAny 276 = .ok (.aload_n 0, 1) := by decide +kernel
theorem dL_refusesAny_277 : decode cL_refusesAny 277 = .ok (.iload 4, 2) := by decide +kernel
theorem dL_refusesAny_279 : decode cL_refusesAny 279 = .ok (.iconst 0, 1) := by decide +kernel
theorem dL_refusesAny_280 : decode cL_refusesAny 280 = .ok (.bipush 9, 2) := by decide +kernel
theorem dL_refusesAny_282 : decode cL_refusesAny 282 = .ok (.invokevirtual 56, 3) := by decide +kernel
theorem dL_refusesAny_285 : decode cL_refusesAny 285 = .ok (.iconst (-1), 1) := by decide +kernel
theorem dL_refusesAny_286 : decode cL_refusesAny 286 = .ok (.if_icmp .ne 252, 3) := by decide +kernel
theorem dL_refusesAny_289 : decode cL_refusesAny 289 = .ok (.aload_n 0, 1) := by decide +kernel
theorem dL_refusesAny_290 : decode cL_refusesAny 290 = .ok (.iconst 0, 1) := by decide +kernel
theorem dL_refusesAny_291 : decode cL_refusesAny 291 = .ok (.iload_n 2, 1) := by decide +kernel
theorem dL_refusesAny_292 : decode cL_refusesAny 292 = .ok (.bipush 9, 2) := by decide +kernel
theorem dL_refusesAny_294 : decode cL_refusesAny 294 = .ok (.invokevirtual 56, 3) := by decide +kernel
theorem dL_refusesAny_297 : decode cL_refusesAny 297 = .ok (.iconst (-1), 1) := by decide +kernel
theorem dL_refusesAny_298 : decode cL_refusesAny 298 = .ok (.if_icmp .ne 240, 3) := by decide +kernel
theorem dL_refusesAny_301 : decode cL_refusesAny 301 = .ok (.iload 5, 2) := by decide +kernel
theorem dL_refusesAny_303 : decode cL_refusesAny 303 = .ok (.ifCond .eq 45, 3) := by decide +kernel
theorem dL_refusesAny_306 : decode cL_refusesAny 306 = .ok (.aload_n 0, 1) := by decide +kernel
theorem dL_refusesAny_307 : decode cL_refusesAny 307 = .ok (.iconst 0, 1) := by decide +kernel
theorem dL_refusesAny_308 : decode cL_refusesAny 308 = .ok (.iconst 0, 1) := by decide +kernel
theorem dL_refusesAny_309 : decode cL_refusesAny 309 = .ok (.iload_n 1, 1) := by decide +kernel
theorem dL_refusesAny_310 : decode cL_refusesAny 310 = .ok (.iconst 2, 1) := by decide +kernel
theorem dL_refusesAny_311 : decode cL_refusesAny 311 = .ok (.irem, 1) := by decide +kernel
theorem dL_refusesAny_312 : decode cL_refusesAny 312 = .ok (.ifCond .ne 7, 3) := by decide +kernel
theorem dL_refusesAny_315 : decode cL_refusesAny 315 = .ok (.iconst 0, 1) := by decide +kernel
theorem dL_refusesAny_316 : decode cL_refusesAny 316 = .ok (.goto 5, 3) := by decide +kernel
theorem dL_refusesAny_319 : decode cL_refusesAny 319 = .ok (.bipush 6, 2) := by decide +kernel
theorem dL_refusesAny_321 : decode cL_refusesAny 321 = .ok (.invokevirtual 56, 3) := by decide +kernel
theorem dL_refusesAny_324 : decode cL_refusesAny 324 = .ok (.bipush (-2), 2) := by decide +kernel
theorem dL_refusesAny_326 : decode cL_refusesAny 326 = .ok (.if_icmp .ne 212, 3) := by decide +kernel
theorem dL_refusesAny_329 : decode cL_refusesAny 329 = .ok (.aload_n 0, 1) := by decide +kernel
theorem dL_refusesAny_330 : decode cL_refusesAny 330 = .ok (.iconst 0, 1) := by decide +kernel
theorem dL_refusesAny_331 : decode cL_refusesAny 331 = .ok (.iconst 1, 1) := by decide +kernel
theorem dL_refusesAny_332 : decode cL_refusesAny 332 = .ok (.invokevirtual 23, 3) := by decide +kernel
theorem dL_refusesAny_335 : decode cL_refusesAny 335 = .ok (.ifCond .eq 13, 3) := by decide +kernel
theorem dL_refusesAny_338 : decode cL_refusesAny 338 = .ok (.aload_n 0, 1) := by decide +kernel
theorem dL_refusesAny_339 : decode cL_refusesAny 339 = .ok (.iconst 0, 1) := by decide +kernel
theorem dL_refusesAny_340 : decode cL_refusesAny 340 = .ok (.invokevirtual 53, 3) := by decide +kernel
theorem dL_refusesAny_343 : decode cL_refusesAny 343 = .ok (.bipush (-5), 2) := by decide +kernel
theorem dL_refusesAny_345 : decode cL_refusesAny 345 = .ok (.if_icmp .ne 193, 3) := by decide +kernel
theorem dL_refusesAny_348 : decode cL_refusesAny 348 = .ok (.aload_n 0, 1) := by decide +kernel
theorem dL_refusesAny_349 : decode cL_refusesAny 349 = .ok (.iload_n 3, 1) := by decide +kernel
theorem dL_refusesAny_350 : decode cL_refusesAny 350 = .ok (.iconst 0, 1) := by decide +kernel
theorem dL_refusesAny_351 : decode cL_refusesAny 351 = .ok (.invokevirtual 60, 3) := by decide +kernel
theorem dL_refusesAny_354 : decode cL_refusesAny 354 = .ok (.iconst (-1), 1) := by decide +kernel
theorem dL_refusesAny_355 : decode cL_refusesAny 355 = .ok (.if_icmp .ne 183, 3) := by decide +kernel
theorem dL_refusesAny_358 : decode cL_refusesAny 358 = .ok (.aload_n 0, 1) := by decide +kernel
theorem dL_refusesAny_359 : decode cL_refusesAny 359 = .ok (.iload_n 3, 1) := by decide +kernel
theorem dL_refusesAny_360 : decode cL_refusesAny 360 = .ok (.invokevirtual 63, 3) := by decide +kernel
theorem dL_refusesAny_363 : decode cL_refusesAny 363 = .ok (.iconst (-1), 1) := by decide +kernel
theorem dL_refusesAny_364 : decode cL_refusesAny 364 = .ok (.if_icmp .ne 174, 3) := by decide +kernel
theorem dL_refusesAny_367 : decode cL_refusesAny 367 = .ok (.aload_n 0, 1) := by decide +kernel
theorem dL_refusesAny_368 : decode cL_refusesAny 368 = .ok (.iload_n 3, 1) := by decide +kernel
theorem dL_refusesAny_369 : decode cL_refusesAny 369 = .ok (.invokevirtual 66, 3) := by decide +kernel
theorem dL_refusesAny_372 : decode cL_refusesAny 372 = .ok (.iconst (-1), 1) := by decide +kernel
theorem dL_refusesAny_373 : decode cL_refusesAny 373 = .ok (.if_icmp .ne 165, 3) := by decide +kernel
theorem dL_refusesAny_376 : decode cL_refusesAny 376 = .ok (.aload_n 0, 1) := by decide +kernel
theorem dL_refusesAny_377 : decode cL_refusesAny 377 = .ok (.iload_n 2, 1) := by decide +kernel
theorem dL_refusesAny_378 : decode cL_refusesAny 378 = .ok (.invokevirtual 69, 3) := by decide +kernel
theorem dL_refusesAny_381 : decode cL_refusesAny 381 = .ok (.iconst (-1), 1) := by decide +kernel
theorem dL_refusesAny_382 : decode cL_refusesAny 382 = .ok (.if_icmp .ne 156, 3) := by decide +kernel
theorem dL_refusesAny_385 : decode cL_refusesAny 385 = .ok (.aload_n 0, 1) := by decide +kernel
theorem dL_refusesAny_386 : decode cL_refusesAny 386 = .ok (.iconst 2, 1) := by decide +kernel
theorem dL_refusesAny_387 : decode cL_refusesAny 387 = .ok (.invokevirtual 14, 3) := by decide +kernel
theorem dL_refusesAny_390 : decode cL_refusesAny 390 = .ok (.ifCond .eq 99, 3) := by decide +kernel
theorem dL_refusesAny_393 : decode cL_refusesAny 393 = .ok (.aload_n 0, 1) := by decide +kernel
theorem dL_refusesAny_394 : decode cL_refusesAny 394 = .ok (.iconst 0, 1) := by decide +kernel
theorem dL_refusesAny_395 : decode cL_refusesAny 395 = .ok (.iload_n 1, 1) := by decide +kernel
theorem dL_refusesAny_396 : decode cL_refusesAny 396 = .ok (.iconst 2, 1) := by decide +kernel
theorem dL_refusesAny_397 : decode cL_refusesAny 397 = .ok (.irem, 1) := by decide +kernel
theorem dL_refusesAny_398 : decode cL_refusesAny 398 = .ok (.ifCond .ne 7, 3) := by decide +kernel
theorem dL_refusesAny_401 : decode cL_refusesAny 401 = .ok (.iconst 0, 1) := by decide +kernel
theorem dL_refusesAny_402 : decode cL_refusesAny 402 = .ok (.goto 5, 3) := by decide +kernel
theorem dL_refusesAny_405 : decode cL_refusesAny 405 = .ok (.bipush 101, 2) := by decide +kernel
theorem dL_refusesAny_407 : decode cL_refusesAny 407 = .ok (.invokevirtual 60, 3) := by decide +kernel
theorem dL_refusesAny_410 : decode cL_refusesAny 410 = .ok (.bipush (-2), 2) := by decide +kernel
theorem dL_refusesAny_412 : decode cL_refusesAny 412 = .ok (.if_icmp .ne 126, 3) := by decide +kernel
theorem dL_refusesAny_415 : decode cL_refusesAny 415 = .ok (.aload_n 0, 1) := by decide +kernel
theorem dL_refusesAny_416 : decode cL_refusesAny 416 = .ok (.iconst 0, 1) := by decide +kernel
theorem dL_refusesAny_417 : decode cL_refusesAny 417 = .ok (.iconst 4, 1) := by decide +kernel
theorem dL_refusesAny_418 : decode cL_refusesAny 418 = .ok (.invokevirtual 30, 3) := by decide +kernel
theorem dL_refusesAny_421 : decode cL_refusesAny 421 = .ok (.ifCond .eq 24, 3) := by decide +kernel
theorem dL_refusesAny_424 : decode cL_refusesAny 424 = .ok (.aload_n 0, 1) := by decide +kernel
theorem dL_refusesAny_425 : decode cL_refusesAny 425 = .ok (.iconst 0, 1) := by decide +kernel
theorem dL_refusesAny_426 : decode cL_refusesAny 426 = .ok (.iconst 5, 1) := by decide +kernel
theorem dL_refusesAny_427 : decode cL_refusesAny 427 = .ok (.invokevirtual 60, 3) := by decide +kernel
theorem dL_refusesAny_430 : decode cL_refusesAny 430 = .ok (.bipush (-5), 2) := by decide +kernel
theorem dL_refusesAny_432 : decode cL_refusesAny 432 = .ok (.if_icmp .ne 106, 3) := by decide +kernel
theorem dL_refusesAny_435 : decode cL_refusesAny 435 = .ok (.aload_n 0, 1) := by decide +kernel
theorem dL_refusesAny_436 : decode cL_refusesAny 436 = .ok (.iconst 0, 1) := by decide +kernel
theorem dL_refusesAny_437 : decode cL_refusesAny 437 = .ok (.invokevirtual 63, 3) := by decide +kernel
theorem dL_refusesAny_440 : decode cL_refusesAny 440 = .ok (.bipush (-5), 2) := by decide +kernel
theorem dL_refusesAny_442 : decode cL_refusesAny 442 = .ok (.if_icmp .ne 96, 3) := by decide +kernel
theorem dL_refusesAny_445 : decode cL_refusesAny 445 = .ok (.aload_n 0, 1) := by decide +kernel
theorem dL_refusesAny_446 : decode cL_refusesAny 446 = .ok (.iconst 0, 1) := by decide +kernel
theorem dL_refusesAny_447 : decode cL_refusesAny 447 = .ok (.iconst 4, 1) := by decide +kernel
theorem dL_refusesAny_448 : decode cL_refusesAny 448 = .ok (.invokevirtual 30, 3) := by decide +kernel
theorem dL_refusesAny_451 : decode cL_refusesAny 451 = .ok (.iconst 2, 1) := by decide +kernel
theorem dL_refusesAny_452 : decode cL_refusesAny 452 = .ok (.if_icmp .lt 13, 3) := by decide +kernel
theorem dL_refusesAny_455 : decode cL_refusesAny 455 = .ok (.aload_n 0, 1) := by decide +kernel
theorem dL_refusesAny_456 : decode cL_refusesAny 456 = .ok (.iconst 0, 1) := by decide +kernel
theorem dL_refusesAny_457 : decode cL_refusesAny 457 = .ok (.invokevirtual 66, 3) := by decide +kernel
theorem dL_refusesAny_460 : decode cL_refusesAny 460 = .ok (.bipush (-5), 2) := by decide +kernel
theorem dL_refusesAny_462 : decode cL_refusesAny 462 = .ok (.if_icmp .ne 76, 3) := by decide +kernel
theorem dL_refusesAny_465 : decode cL_refusesAny 465 = .ok (.aload_n 0, 1) := by decide +kernel
theorem dL_refusesAny_466 : decode cL_refusesAny 466 = .ok (.iconst 0, 1) := by decide +kernel
theorem dL_refusesAny_467 : decode cL_refusesAny 467 = .ok (.iconst 4, 1) := by decide +kernel
theorem dL_refusesAny_468 : decode cL_refusesAny 468 = .ok (.invokevirtual 30, 3) := by decide +kernel
theorem dL_refusesAny_471 : decode cL_refusesAny 471 = .ok (.ifCond .ne 18, 3) := by decide +kernel
theorem dL_refusesAny_474 : decode cL_refusesAny 474 = .ok (.aload_n 0, 1) := by decide +kernel
theorem dL_refusesAny_475 : decode cL_refusesAny 475 = .ok (.aload_n 0, 1) := by decide +kernel
theorem dL_refusesAny_476 : decode cL_refusesAny 476 = .ok (.iconst 0, 1) := by decide +kernel
theorem dL_refusesAny_477 : decode cL_refusesAny 477 = .ok (.iconst 1, 1) := by decide +kernel
theorem dL_refusesAny_478 : decode cL_refusesAny 478 = .ok (.invokevirtual 30, 3) := by decide +kernel
theorem dL_refusesAny_481 : decode cL_refusesAny 481 = .ok (.invokevirtual 69, 3) := by decide +kernel
theorem dL_refusesAny_484 : decode cL_refusesAny 484 = .ok (.bipush (-5), 2) := by decide +kernel
theorem dL_refusesAny_486 : decode cL_refusesAny 486 = .ok (.if_icmp .ne 52, 3) := by decide +kernel
theorem dL_refusesAny_489 : decode cL_refusesAny 489 = .ok (.aload_n 0, 1) := by decide +kernel
theorem dL_refusesAny_490 : decode cL_refusesAny 490 = .ok (.iload_n 1, 1) := by decide +kernel
theorem dL_refusesAny_491 : decode cL_refusesAny 491 = .ok (.iconst 2, 1) := by decide +kernel
theorem dL_refusesAny_492 : decode cL_refusesAny 492 = .ok (.irem, 1) := by decide +kernel
theorem dL_refusesAny_493 : decode cL_refusesAny 493 = .ok (.ifCond .ne 7, 3) := by decide +kernel
theorem dL_refusesAny_496 : decode cL_refusesAny 496 = .ok (.iconst 0, 1) := by decide +kernel
theorem dL_refusesAny_497 : decode cL_refusesAny 497 = .ok (.goto 6, 3) := by decide +kernel
theorem dL_refusesAny_500 : decode cL_refusesAny 500 = .ok (.sipush 401, 3) := by decide +kernel
theorem dL_refusesAny_503 : decode cL_refusesAny 503 = .ok (.invokevirtual 72, 3) := by decide +kernel
theorem dL_refusesAny_506 : decode cL_refusesAny 506 = .ok (.bipush (-2), 2) := by decide +kernel
theorem dL_refusesAny_508 : decode cL_refusesAny 508 = .ok (.if_icmp .ne 30, 3) := by decide +kernel
theorem dL_refusesAny_511 : decode cL_refusesAny 511 = .ok (.aload_n 0, 1) := by decide +kernel
theorem dL_refusesAny_512 : decode cL_refusesAny 512 = .ok (.iconst 0, 1) := by decide +kernel
theorem dL_refusesAny_513 : decode cL_refusesAny 513 = .ok (.invokevirtual 14, 3) := by decide +kernel
theorem dL_refusesAny_516 : decode cL_refusesAny 516 = .ok (.sipush 9600, 3) := by decide +kernel
theorem dL_refusesAny_519 : decode cL_refusesAny 519 = .ok (.if_icmp .lt 15, 3) := by decide +kernel
theorem dL_refusesAny_522 : decode cL_refusesAny 522 = .ok (.aload_n 0, 1) := by decide +kernel
theorem dL_refusesAny_523 : decode cL_refusesAny 523 = .ok (.sipush 400, 3) := by decide +kernel
theorem dL_refusesAny_526 : decode cL_refusesAny 526 = .ok (.invokevirtual 72, 3) := by decide +kernel
theorem dL_refusesAny_529 : decode cL_refusesAny 529 = .ok (.bipush (-5), 2) := by decide +kernel
theorem dL_refusesAny_531 : decode cL_refusesAny 531 = .ok (.if_icmp .ne 7, 3) := by decide +kernel
theorem dL_refusesAny_534 : decode cL_refusesAny 534 = .ok (.iconst 1, 1) := by decide +kernel
theorem dL_refusesAny_535 : decode cL_refusesAny 535 = .ok (.goto 4, 3) := by decide +kernel
theorem dL_refusesAny_538 : decode cL_refusesAny 538 = .ok (.iconst 0, 1) := by decide +kernel
theorem dL_refusesAny_539 : decode cL_refusesAny 539 = .ok (.istore 6, 2) := by decide +kernel
theorem dL_refusesAny_541 : decode cL_refusesAny 541 = .ok (.iload 6, 2) := by decide +kernel
theorem dL_refusesAny_543 : decode cL_refusesAny 543 = .ok (.ifCond .eq 285, 3) := by decide +kernel
theorem dL_refusesAny_546 : decode cL_refusesAny 546 = .ok (.aload_n 0, 1) := by decide +kernel
theorem dL_refusesAny_547 : decode cL_refusesAny 547 = .ok (.iload_n 2, 1) := by decide +kernel
theorem dL_refusesAny_548 : decode cL_refusesAny 548 = .ok (.bipush 99, 2) := by decide +kernel
theorem dL_refusesAny_550 : decode cL_refusesAny 550 = .ok (.invokevirtual 23, 3) := by decide +kernel
theorem dL_refusesAny_553 : decode cL_refusesAny 553 = .ok (.iconst (-1), 1) := by decide +kernel
theorem dL_refusesAny_554 : decode cL_refusesAny 554 = .ok (.if_icmp .ne 274, 3) := by decide +kernel
theorem dL_refusesAny_557 : decode cL_refusesAny 557 = .ok (.iload 5, 2) := by decide +kernel
theorem dL_refusesAny_559 : decode cL_refusesAny 559 = .ok (.ifCond .eq 60, 3) := by decide +kernel
theorem dL_refusesAny_562 : decode cL_refusesAny 562 = .ok (.aload_n 0, 1) := by decide +kernel
theorem dL_refusesAny_563 : decode cL_refusesAny 563 = .ok (.iconst 0, 1) := by decide +kernel
theorem dL_refusesAny_564 : decode cL_refusesAny 564 = .ok (.iload_n 1, 1) := by decide +kernel
theorem dL_refusesAny_565 : decode cL_refusesAny 565 = .ok (.iconst 2, 1) := by decide +kernel
theorem dL_refusesAny_566 : decode cL_refusesAny 566 = .ok (.irem, 1) := by decide +kernel
theorem dL_refusesAny_567 : decode cL_refusesAny 567 = .ok (.ifCond .ne 7, 3) := by decide +kernel
theorem dL_refusesAny_570 : decode cL_refusesAny 570 = .ok (.iconst (-1), 1) := by decide +kernel
theorem dL_refusesAny_571 : decode cL_refusesAny 571 = .ok (.goto 5, 3) := by decide +kernel
theorem dL_refusesAny_574 : decode cL_refusesAny 574 = .ok (.bipush 7, 2) := by decide +kernel
theorem dL_refusesAny_576 : decode cL_refusesAny 576 = .ok (.invokevirtual 23, 3) := by decide +kernel
theorem dL_refusesAny_579 : decode cL_refusesAny 579 = .ok (.bipush (-2), 2) := by decide +kernel
theorem dL_refusesAny_581 : decode cL_refusesAny 581 = .ok (.if_icmp .ne 247, 3) := by decide +kernel
theorem dL_refusesAny_584 : decode cL_refusesAny 584 = .ok (.aload_n 0, 1) := by decide +kernel
theorem dL_refusesAny_585 : decode cL_refusesAny 585 = .ok (.iconst 0, 1) := by decide +kernel
theorem dL_refusesAny_586 : decode cL_refusesAny 586 = .ok (.iload 4, 2) := by decide +kernel
theorem dL_refusesAny_588 : decode cL_refusesAny 588 = .ok (.bipush 9, 2) := by decide +kernel
theorem dL_refusesAny_590 : decode cL_refusesAny 590 = .ok (.invokevirtual 75, 3) := by decide +kernel
theorem dL_refusesAny_593 : decode cL_refusesAny 593 = .ok (.iconst (-1), 1) := by decide +kernel
theorem dL_refusesAny_594 : decode cL_refusesAny 594 = .ok (.if_icmp .ne 234, 3) := by decide +kernel
theorem dL_refusesAny_597 : decode cL_refusesAny 597 = .ok (.aload_n 0, 1) := by decide +kernel
theorem dL_refusesAny_598 : decode cL_refusesAny 598 = .ok (.iconst 0, 1) := by decide +kernel
theorem dL_refusesAny_599 : decode cL_refusesAny 599 = .ok (.iconst 0, 1) := by decide +kernel
theorem dL_refusesAny_600 : decode cL_refusesAny 600 = .ok (.iload_n 1, 1) := by decide +kernel
theorem dL_refusesAny_601 : decode cL_refusesAny 601 = .ok (.iconst 2, 1) := by decide +kernel
theorem dL_refusesAny_602 : decode cL_refusesAny 602 = .ok (.irem, 1) := by decide +kernel
theorem dL_refusesAny_603 : decode cL_refusesAny 603 = .ok (.ifCond .ne 7, 3) := by decide +kernel
theorem dL_refusesAny_606 : decode cL_refusesAny 606 = .ok (.iconst (-1), 1) := by decide +kernel
theorem dL_refusesAny_607 : decode cL_refusesAny 607 = .ok (.goto 4, 3) := by decide +kernel
theorem dL_refusesAny_610 : decode cL_refusesAny 610 = .ok (.iconst 2, 1) := by decide +kernel
theorem dL_refusesAny_611 : decode cL_refusesAny 611 = .ok (.invokevirtual 75, 3) := by decide +kernel
theorem dL_refusesAny_614 : decode cL_refusesAny 614 = .ok (.bipush (-2), 2) := by decide +kernel
theorem dL_refusesAny_616 : decode cL_refusesAny 616 = .ok (.if_icmp .ne 212, 3) := by decide +kernel
theorem dL_refusesAny_619 : decode cL_refusesAny 619 = .ok (.aload_n 0, 1) := by decide +kernel
theorem dL_refusesAny_620 : decode cL_refusesAny 620 = .ok (.iload_n 3, 1) := by decide +kernel
theorem dL_refusesAny_621 : decode cL_refusesAny 621 = .ok (.bipush 99, 2) := by decide +kernel
theorem dL_refusesAny_623 : decode cL_refusesAny 623 = .ok (.invokevirtual 30, 3) := by decide +kernel
theorem dL_refusesAny_626 : decode cL_refusesAny 626 = .ok (.iconst (-1), 1) := by decide +kernel
theorem dL_refusesAny_627 : decode cL_refusesAny 627 = .ok (.if_icmp .ne 201, 3) := by decide +kernel
theorem dL_refusesAny_630 : decode cL_refusesAny 630 = .ok (.aload_n 0, 1) := by decide +kernel
theorem dL_refusesAny_631 : decode cL_refusesAny 631 = .ok (.iconst 2, 1) := by decide +kernel
theorem dL_refusesAny_632 : decode cL_refusesAny 632 = .ok (.invokevirtual 14, 3) := by decide +kernel
theorem dL_refusesAny_635 : decode cL_refusesAny 635 = .ok (.ifCond .eq 25, 3) := by decide +kernel
theorem dL_refusesAny_638 : decode cL_refusesAny 638 = .ok (.aload_n 0, 1) := by decide +kernel
theorem dL_refusesAny_639 : decode cL_refusesAny 639 = .ok (.iconst 0, 1) := by decide +kernel
theorem dL_refusesAny_640 : decode cL_refusesAny 640 = .ok (.iload_n 1, 1) := by decide +kernel
theorem dL_refusesAny_641 : decode cL_refusesAny 641 = .ok (.iconst 2, 1) := by decide +kernel
theorem dL_refusesAny_642 : decode cL_refusesAny 642 = .ok (.irem, 1) := by decide +kernel
theorem dL_refusesAny_643 : decode cL_refusesAny 643 = .ok (.ifCond .ne 7, 3) := by decide +kernel
theorem dL_refusesAny_646 : decode cL_refusesAny 646 = .ok (.iconst (-1), 1) := by decide +kernel
theorem dL_refusesAny_647 : decode cL_refusesAny 647 = .ok (.goto 5, 3) := by decide +kernel
theorem dL_refusesAny_650 : decode cL_refusesAny 650 = .ok (.bipush 7, 2) := by decide +kernel
theorem dL_refusesAny_652 : decode cL_refusesAny 652 = .ok (.invokevirtual 30, 3) := by decide +kernel
theorem dL_refusesAny_655 : decode cL_refusesAny 655 = .ok (.bipush (-2), 2) := by decide +kernel
theorem dL_refusesAny_657 : decode cL_refusesAny 657 = .ok (.if_icmp .ne 171, 3) := by decide +kernel
theorem dL_refusesAny_660 : decode cL_refusesAny 660 = .ok (.aload_n 0, 1) := by decide +kernel
theorem dL_refusesAny_661 : decode cL_refusesAny 661 = .ok (.iload 4, 2) := by decide +kernel
theorem dL_refusesAny_663 : decode cL_refusesAny 663 = .ok (.bipush 9, 2) := by decide +kernel
theorem dL_refusesAny_665 : decode cL_refusesAny 665 = .ok (.invokevirtual 27, 3) := by decide +kernel
theorem dL_refusesAny_668 : decode cL_refusesAny 668 = .ok (.iconst (-1), 1) := by decide +kernel
theorem dL_refusesAny_669 : decode cL_refusesAny 669 = .ok (.if_icmp .ne 159, 3) := by decide +kernel
theorem dL_refusesAny_672 : decode cL_refusesAny 672 = .ok (.aload_n 0, 1) := by decide +kernel
theorem dL_refusesAny_673 : decode cL_refusesAny 673 = .ok (.iconst 0, 1) := by decide +kernel
theorem dL_refusesAny_674 : decode cL_refusesAny 674 = .ok (.iload_n 1, 1) := by decide +kernel
theorem dL_refusesAny_675 : decode cL_refusesAny 675 = .ok (.iconst 2, 1) := by decide +kernel
theorem dL_refusesAny_676 : decode cL_refusesAny 676 = .ok (.irem, 1) := by decide +kernel
theorem dL_refusesAny_677 : decode cL_refusesAny 677 = .ok (.ifCond .ne 7, 3) := by decide +kernel
theorem dL_refusesAny_680 : decode cL_refusesAny 680 = .ok (.iconst (-1), 1) := by decide +kernel
theorem dL_refusesAny_681 : decode cL_refusesAny 681 = .ok (.goto 4, 3) := by decide +kernel
theorem dL_refusesAny_684 : decode cL_refusesAny 684 = .ok (.iconst 4, 1) := by decide +kernel
theorem dL_refusesAny_685 : decode cL_refusesAny 685 = .ok (.invokevirtual 27, 3) := by decide +kernel
theorem dL_refusesAny_688 : decode cL_refusesAny 688 = .ok (.bipush (-2), 2) := by decide +kernel
theorem dL_refusesAny_690 : decode cL_refusesAny 690 = .ok (.if_icmp .ne 138, 3) := by decide +kernel
theorem dL_refusesAny_693 : decode cL_refusesAny 693 = .ok (.aload_n 0, 1) := by decide +kernel
theorem dL_refusesAny_694 : decode cL_refusesAny 694 = .ok (.iload_n 1, 1) := by decide +kernel
theorem dL_refusesAny_695 : decode cL_refusesAny 695 = .ok (.iconst 2, 1) := by decide +kernel
theorem dL_refusesAny_696 : decode cL_refusesAny 696 = .ok (.irem, 1) := by decide +kernel
theorem dL_refusesAny_697 : decode cL_refusesAny 697 = .ok (.ifCond .ne 7, 3) := by decide +kernel
theorem dL_refusesAny_700 : decode cL_refusesAny 700 = .ok (.iconst (-1), 1) := by decide +kernel
theorem dL_refusesAny_701 : decode cL_refusesAny 701 = .ok (.goto 5, 3) := by decide +kernel
theorem dL_refusesAny_704 : decode cL_refusesAny 704 = .ok (.bipush 21, 2) := by decide +kernel
theorem dL_refusesAny_706 : decode cL_refusesAny 706 = .ok (.invokevirtual 14, 3) := by decide +kernel
theorem dL_refusesAny_709 : decode cL_refusesAny 709 = .ok (.bipush (-2), 2) := by decide +kernel
theorem dL_refusesAny_711 : decode cL_refusesAny 711 = .ok (.if_icmp .ne 117, 3) := by decide +kernel
theorem dL_refusesAny_714 : decode cL_refusesAny 714 = .ok (.aload_n 0, 1) := by decide +kernel
theorem dL_refusesAny_715 : decode cL_refusesAny 715 = .ok (.iload_n 2, 1) := by decide +kernel
theorem dL_refusesAny_716 : decode cL_refusesAny 716 = .ok (.invokevirtual 33, 3) := by decide +kernel
theorem dL_refusesAny_719 : decode cL_refusesAny 719 = .ok (.iconst (-1), 1) := by decide +kernel
theorem dL_refusesAny_720 : decode cL_refusesAny 720 = .ok (.if_icmp .ne 108, 3) := by decide +kernel
theorem dL_refusesAny_723 : decode cL_refusesAny 723 = .ok (.aload_n 0, 1) := by decide +kernel
theorem dL_refusesAny_724 : decode cL_refusesAny 724 = .ok (.iload_n 2, 1) := by decide +kernel
theorem dL_refusesAny_725 : decode cL_refusesAny 725 = .ok (.invokevirtual 38, 3) := by decide +kernel
theorem dL_refusesAny_728 : decode cL_refusesAny 728 = .ok (.iconst (-1), 1) := by decide +kernel
theorem dL_refusesAny_729 : decode cL_refusesAny 729 = .ok (.if_icmp .ne 99, 3) := by decide +kernel
theorem dL_refusesAny_732 : decode cL_refusesAny 732 = .ok (.aload_n 0, 1) := by decide +kernel
theorem dL_refusesAny_733 : decode cL_refusesAny 733 = .ok (.iload_n 2, 1) := by decide +kernel
theorem dL_refusesAny_734 : decode cL_refusesAny 734 = .ok (.iconst 0, 1) := by decide +kernel
theorem dL_refusesAny_735 : decode cL_refusesAny 735 = .ok (.bipush 9, 2) := by decide +kernel
theorem dL_refusesAny_737 : decode cL_refusesAny 737 = .ok (.invokevirtual 75, 3) := by decide +kernel
theorem dL_refusesAny_740 : decode cL_refusesAny 740 = .ok (.iconst (-1), 1) := by decide +kernel
theorem dL_refusesAny_741 : decode cL_refusesAny 741 = .ok (.if_icmp .ne 87, 3) := by decide +kernel
theorem dL_refusesAny_744 : decode cL_refusesAny 744 = .ok (.aload_n 0, 1) := by decide +kernel
theorem dL_refusesAny_745 : decode cL_refusesAny 745 = .ok (.iload_n 1, 1) := by decide +kernel
theorem dL_refusesAny_746 : decode cL_refusesAny 746 = .ok (.iconst 2, 1) := by decide +kernel
theorem dL_refusesAny_747 : decode cL_refusesAny 747 = .ok (.irem, 1) := by decide +kernel
theorem dL_refusesAny_748 : decode cL_refusesAny 748 = .ok (.ifCond .ne 7, 3) := by decide +kernel
theorem dL_refusesAny_751 : decode cL_refusesAny 751 = .ok (.iconst (-1), 1) := by decide +kernel
theorem dL_refusesAny_752 : decode cL_refusesAny 752 = .ok (.goto 4, 3) := by decide +kernel
theorem dL_refusesAny_755 : decode cL_refusesAny 755 = .ok (.iconst 2, 1) := by decide +kernel
theorem dL_refusesAny_756 : decode cL_refusesAny 756 = .ok (.invokevirtual 41, 3) := by decide +kernel
theorem dL_refusesAny_759 : decode cL_refusesAny 759 = .ok (.bipush (-2), 2) := by decide +kernel
theorem dL_refusesAny_761 : decode cL_refusesAny 761 = .ok (.if_icmp .ne 67, 3) := by decide +kernel
theorem dL_refusesAny_764 : decode cL_refusesAny 764 = .ok (.aload_n 0, 1) := by decide +kernel
theorem dL_refusesAny_765 : decode cL_refusesAny 765 = .ok (.iload_n 1, 1) := by decide +kernel
theorem dL_refusesAny_766 : decode cL_refusesAny 766 = .ok (.iconst 2, 1) := by decide +kernel
theorem dL_refusesAny_767 : decode cL_refusesAny 767 = .ok (.irem, 1) := by decide +kernel
theorem dL_refusesAny_768 : decode cL_refusesAny 768 = .ok (.ifCond .ne 7, 3) := by decide +kernel
theorem dL_refusesAny_771 : decode cL_refusesAny 771 = .ok (.iconst (-1), 1) := by decide +kernel
theorem dL_refusesAny_772 : decode cL_refusesAny 772 = .ok (.goto 4, 3) := by decide +kernel
theorem dL_refusesAny_775 : decode cL_refusesAny 775 = .ok (.iconst 2, 1) := by decide +kernel
theorem dL_refusesAny_776 : decode cL_refusesAny 776 = .ok (.invokevirtual 44, 3) := by decide +kernel
theorem dL_refusesAny_779 : decode cL_refusesAny 779 = .ok (.bipush (-2), 2) := by decide +kernel
theorem dL_refusesAny_781 : decode cL_refusesAny 781 = .ok (.if_icmp .ne 47, 3) := by decide +kernel
theorem dL_refusesAny_784 : decode cL_refusesAny 784 = .ok (.aload_n 0, 1) := by decide +kernel
theorem dL_refusesAny_785 : decode cL_refusesAny 785 = .ok (.iload_n 1, 1) := by decide +kernel
theorem dL_refusesAny_786 : decode cL_refusesAny 786 = .ok (.iconst 2, 1) := by decide +kernel
theorem dL_refusesAny_787 : decode cL_refusesAny 787 = .ok (.irem, 1) := by decide +kernel
theorem dL_refusesAny_788 : decode cL_refusesAny 788 = .ok (.ifCond .ne 7, 3) := by decide +kernel
theorem dL_refusesAny_791 : decode cL_refusesAny 791 = .ok (.iconst (-1), 1) := by decide +kernel
theorem dL_refusesAny_792 : decode cL_refusesAny 792 = .ok (.goto 4, 3) := by decide +kernel
theorem dL_refusesAny_795 : decode cL_refusesAny 795 = .ok (.iconst 2, 1) := by decide +kernel
theorem dL_refusesAny_796 : decode cL_refusesAny 796 = .ok (.invokevirtual 78, 3) := by decide +kernel
theorem dL_refusesAny_799 : decode cL_refusesAny 799 = .ok (.bipush (-2), 2) := by decide +kernel
theorem dL_refusesAny_801 : decode cL_refusesAny 801 = .ok (.if_icmp .ne 27, 3) := by decide +kernel
theorem dL_refusesAny_804 : decode cL_refusesAny 804 = .ok (.aload_n 0, 1) := by decide +kernel
theorem dL_refusesAny_805 : decode cL_refusesAny 805 = .ok (.iload_n 1, 1) := by decide +kernel
theorem dL_refusesAny_806 : decode cL_refusesAny 806 = .ok (.iconst 2, 1) := by decide +kernel
theorem dL_refusesAny_807 : decode cL_refusesAny 807 = .ok (.irem, 1) := by decide +kernel
theorem dL_refusesAny_808 : decode cL_refusesAny 808 = .ok (.ifCond .ne 7, 3) := by decide +kernel
theorem dL_refusesAny_811 : decode cL_refusesAny 811 = .ok (.iconst (-1), 1) := by decide +kernel
theorem dL_refusesAny_812 : decode cL_refusesAny 812 = .ok (.goto 4, 3) := by decide +kernel
theorem dL_refusesAny_815 : decode cL_refusesAny 815 = .ok (.iconst 2, 1) := by decide +kernel
theorem dL_refusesAny_816 : decode cL_refusesAny 816 = .ok (.invokevirtual 81, 3) := by decide +kernel
theorem dL_refusesAny_819 : decode cL_refusesAny 819 = .ok (.bipush (-2), 2) := by decide +kernel
theorem dL_refusesAny_821 : decode cL_refusesAny 821 = .ok (.if_icmp .ne 7, 3) := by decide +kernel
theorem dL_refusesAny_824 : decode cL_refusesAny 824 = .ok (.iconst 1, 1) := by decide +kernel
theorem dL_refusesAny_825 : decode cL_refusesAny 825 = .ok (.goto 4, 3) := by decide +kernel
theorem dL_refusesAny_828 : decode cL_refusesAny 828 = .ok (.iconst 0, 1) := by decide +kernel
theorem dL_refusesAny_829 : decode cL_refusesAny 829 = .ok (.istore 6, 2) := by decide +kernel
theorem dL_refusesAny_831 : decode cL_refusesAny 831 = .ok (.iload 6, 2) := by decide +kernel
theorem dL_refusesAny_833 : decode cL_refusesAny 833 = .ok (.ifCond .eq 30, 3) := by decide +kernel
theorem dL_refusesAny_836 : decode cL_refusesAny 836 = .ok (.aload_n 0, 1) := by decide +kernel
theorem dL_refusesAny_837 : decode cL_refusesAny 837 = .ok (.invokevirtual 84, 3) := by decide +kernel
theorem dL_refusesAny_840 : decode cL_refusesAny 840 = .ok (.ifCond .ne 23, 3) := by decide +kernel
theorem dL_refusesAny_843 : decode cL_refusesAny 843 = .ok (.aload_n 0, 1) := by decide +kernel
theorem dL_refusesAny_844 : decode cL_refusesAny 844 = .ok (.invokevirtual 88, 3) := by decide +kernel
theorem dL_refusesAny_847 : decode cL_refusesAny 847 = .ok (.bipush (-3), 2) := by decide +kernel
theorem dL_refusesAny_849 : decode cL_refusesAny 849 = .ok (.if_icmp .ne 14, 3) := by decide +kernel
theorem dL_refusesAny_852 : decode cL_refusesAny 852 = .ok (.aload_n 0, 1) := by decide +kernel
theorem dL_refusesAny_853 : decode cL_refusesAny 853 = .ok (.invokevirtual 91, 3) := by decide +kernel
theorem dL_refusesAny_856 : decode cL_refusesAny 856 = .ok (.ifCond .ne 7, 3) := by decide +kernel
theorem dL_refusesAny_859 : decode cL_refusesAny 859 = .ok (.iconst 1, 1) := by decide +kernel
theorem dL_refusesAny_860 : decode cL_refusesAny 860 = .ok (.goto 4, 3) := by decide +kernel
theorem dL_refusesAny_863 : decode cL_refusesAny 863 = .ok (.iconst 0, 1) := by decide +kernel
theorem dL_refusesAny_864 : decode cL_refusesAny 864 = .ok (.ireturn, 1) := by decide +kernel
theorem dL_refuses_0 : decode cL_refuses 0 = .ok (.aload_n 0, 1) := by decide +kernel
theorem dL_refuses_1 : decode cL_refuses 1 = .ok (.invokestatic 94, 3) := by decide +kernel
theorem dL_refuses_4 : decode cL_refuses 4 = .ok (.lstore_n 2, 1) := by decide +kernel
theorem dL_refuses_5 : decode cL_refuses 5 = .ok (.aload_n 0, 1) := by decide +kernel
theorem dL_refuses_6 : decode cL_refuses 6 = .ok (.bipush 20, 2) := by decide +kernel
theorem dL_refuses_8 : decode cL_refuses 8 = .ok (.invokevirtual 14, 3) := by decide +kernel
theorem dL_refuses_11 : decode cL_refuses 11 = .ok (.istore 4, 2) := by decide +kernel
theorem dL_refuses_13 : decode cL_refuses 13 = .ok (.aload_n 0, 1) := by decide +kernel
theorem dL_refuses_14 : decode cL_refuses 14 = .ok (.iload_n 1, 1) := by decide +kernel
theorem dL_refuses_15 : decode cL_refuses 15 = .ok (.invokestatic 98, 3) := by decide +kernel
theorem dL_refuses_18 : decode cL_refuses 18 = .ok (.ifCond .eq 27, 3) := by decide +kernel
theorem dL_refuses_21 : decode cL_refuses 21 = .ok (.aload_n 0, 1) := by decide +kernel
theorem dL_refuses_22 : decode cL_refuses 22 = .ok (.invokestatic 94, 3) := by decide +kernel
theorem dL_refuses_25 : decode cL_refuses 25 = .ok (.lload_n 2, 1) := by decide +kernel
theorem dL_refuses_26 : decode cL_refuses 26 = .ok (.lcmp, 1) := by decide +kernel
theorem dL_refuses_27 : decode cL_refuses 27 = .ok (.ifCond .ne 18, 3) := by decide +kernel
theorem dL_refuses_30 : decode cL_refuses 30 = .ok (.aload_n 0, 1) := by decide +kernel
theorem dL_refuses_31 : decode cL_refuses 31 = .ok (.bipush 20, 2) := by decide +kernel
theorem dL_refuses_33 : decode cL_refuses 33 = .ok (.invokevirtual 14, 3) := by decide +kernel
theorem dL_refuses_36 : decode cL_refuses 36 = .ok (.iload 4, 2) := by decide +kernel
theorem dL_refuses_38 : decode cL_refuses 38 = .ok (.if_icmp .ne 7, 3) := by decide +kernel
theorem dL_refuses_41 : decode cL_refuses 41 = .ok (.iconst 1, 1) := by decide +kernel
theorem dL_refuses_42 : decode cL_refuses 42 = .ok (.goto 4, 3) := by decide +kernel
theorem dL_refuses_45 : decode cL_refuses 45 = .ok (.iconst 0, 1) := by decide +kernel
theorem dL_refuses_46 : decode cL_refuses 46 = .ok (.ireturn, 1) := by decide +kernel
theorem dL_size_0 : decode cL_size 0 = .ok (.iconst 0, 1) := by decide +kernel
theorem dL_size_1 : decode cL_size 1 = .ok (.istore_n 1, 1) := by decide +kernel
theorem dL_size_2 : decode cL_size 2 = .ok (.iload_n 0, 1) := by decide +kernel
theorem dL_size_3 : decode cL_size 3 = .ok (.istore_n 2, 1) := by decide +kernel
theorem dL_size_4 : decode cL_size 4 = .ok (.iload_n 2, 1) := by decide +kernel
theorem dL_size_5 : decode cL_size 5 = .ok (.ifCond .eq 15, 3) := by decide +kernel
theorem dL_size_8 : decode cL_size 8 = .ok (.iinc 1 1, 3) := by decide +kernel
theorem dL_size_11 : decode cL_size 11 = .ok (.iload_n 2, 1) := by decide +kernel
theorem dL_size_12 : decode cL_size 12 = .ok (.iload_n 2, 1) := by decide +kernel
theorem dL_size_13 : decode cL_size 13 = .ok (.iconst 1, 1) := by decide +kernel
theorem dL_size_14 : decode cL_size 14 = .ok (.isub, 1) := by decide +kernel
theorem dL_size_15 : decode cL_size 15 = .ok (.iand, 1) := by decide +kernel
theorem dL_size_16 : decode cL_size 16 = .ok (.istore_n 2, 1) := by decide +kernel
theorem dL_size_17 : decode cL_size 17 = .ok (.goto (-13), 3) := by decide +kernel
theorem dL_size_20 : decode cL_size 20 = .ok (.iload_n 1, 1) := by decide +kernel
theorem dL_size_21 : decode cL_size 21 = .ok (.ireturn, 1) := by decide +kernel
theorem dL_act_0 : decode cL_act 0 = .ok (.iload_n 1, 1) := by decide +kernel
theorem dL_act_1 : decode cL_act 1 = .ok (.bipush 16, 2) := by decide +kernel
theorem dL_act_3 : decode cL_act 3 = .ok (.irem, 1) := by decide +kernel
theorem dL_act_4 : decode cL_act 4 = .ok (.istore_n 2, 1) := by decide +kernel
theorem dL_act_5 : decode cL_act 5 = .ok (.iload_n 1, 1) := by decide +kernel
theorem dL_act_6 : decode cL_act 6 = .ok (.bipush 16, 2) := by decide +kernel
theorem dL_act_8 : decode cL_act 8 = .ok (.idiv, 1) := by decide +kernel
theorem dL_act_9 : decode cL_act 9 = .ok (.istore_n 3, 1) := by decide +kernel
theorem dL_act_10 : decode cL_act 10 = .ok (.aload_n 0, 1) := by decide +kernel
theorem dL_act_11 : decode cL_act 11 = .ok (.iconst 1, 1) := by decide +kernel
theorem dL_act_12 : decode cL_act 12 = .ok (.invokevirtual 14, 3) := by decide +kernel
theorem dL_act_15 : decode cL_act 15 = .ok (.istore 4, 2) := by decide +kernel
theorem dL_act_17 : decode cL_act 17 = .ok (.aload_n 0, 1) := by decide +kernel
theorem dL_act_18 : decode cL_act 18 = .ok (.iconst 2, 1) := by decide +kernel
theorem dL_act_19 : decode cL_act 19 = .ok (.invokevirtual 14, 3) := by decide +kernel
theorem dL_act_22 : decode cL_act 22 = .ok (.istore 5, 2) := by decide +kernel
theorem dL_act_24 : decode cL_act 24 = .ok (.iload 4, 2) := by decide +kernel
theorem dL_act_26 : decode cL_act 26 = .ok (.ifCond .ne 7, 3) := by decide +kernel
theorem dL_act_29 : decode cL_act 29 = .ok (.iconst 0, 1) := by decide +kernel
theorem dL_act_30 : decode cL_act 30 = .ok (.goto 7, 3) := by decide +kernel
theorem dL_act_33 : decode cL_act 33 = .ok (.iload_n 3, 1) := by decide +kernel
theorem dL_act_34 : decode cL_act 34 = .ok (.iload 4, 2) := by decide +kernel
theorem dL_act_36 : decode cL_act 36 = .ok (.irem, 1) := by decide +kernel
theorem dL_act_37 : decode cL_act 37 = .ok (.istore 6, 2) := by decide +kernel
theorem dL_act_39 : decode cL_act 39 = .ok (.iload 5, 2) := by decide +kernel
theorem dL_act_41 : decode cL_act 41 = .ok (.ifCond .ne 7, 3) := by decide +kernel
theorem dL_act_44 : decode cL_act 44 = .ok (.iconst 0, 1) := by decide +kernel
theorem dL_act_45 : decode cL_act 45 = .ok (.goto 7, 3) := by decide +kernel
theorem dL_act_48 : decode cL_act 48 = .ok (.iload_n 3, 1) := by decide +kernel
theorem dL_act_49 : decode cL_act 49 = .ok (.iload 5, 2) := by decide +kernel
theorem dL_act_51 : decode cL_act 51 = .ok (.irem, 1) := by decide +kernel
theorem dL_act_52 : decode cL_act 52 = .ok (.istore 7, 2) := by decide +kernel
theorem dL_act_54 : decode cL_act 54 = .ok (.iload_n 2, 1) := by decide +kernel
theorem dL_act_55 : decode cL_act 55 = .ok (.iconst 2, 1) := by decide +kernel
theorem dL_act_56 : decode cL_act 56 = .ok (.if_icmp .lt 8, 3) := by decide +kernel
theorem dL_act_59 : decode cL_act 59 = .ok (.iload 4, 2) := by decide +kernel
theorem dL_act_61 : decode cL_act 61 = .ok (.ifCond .ne 120, 3) := by decide +kernel
theorem dL_act_64 : decode cL_act 64 = .ok (.iload_n 3, 1) := by decide +kernel
theorem dL_act_65 : decode cL_act 65 = .ok (.iconst 3, 1) := by decide +kernel
theorem dL_act_66 : decode cL_act 66 = .ok (.irem, 1) := by decide +kernel
theorem dL_act_67 : decode cL_act 67 = .ok (.ifCond .ne 15, 3) := by decide +kernel
theorem dL_act_70 : decode cL_act 70 = .ok (.iconst 1, 1) := by decide +kernel
theorem dL_act_71 : decode cL_act 71 = .ok (.iload_n 3, 1) := by decide +kernel
theorem dL_act_72 : decode cL_act 72 = .ok (.iconst 3, 1) := by decide +kernel
theorem dL_act_73 : decode cL_act 73 = .ok (.idiv, 1) := by decide +kernel
theorem dL_act_74 : decode cL_act 74 = .ok (.sipush 9999, 3) := by decide +kernel
theorem dL_act_77 : decode cL_act 77 = .ok (.irem, 1) := by decide +kernel
theorem dL_act_78 : decode cL_act 78 = .ok (.iadd, 1) := by decide +kernel
theorem dL_act_79 : decode cL_act 79 = .ok (.goto 11, 3) := by decide +kernel
theorem dL_act_82 : decode cL_act 82 = .ok (.iconst 1, 1) := by decide +kernel
theorem dL_act_83 : decode cL_act 83 = .ok (.iload_n 3, 1) := by decide +kernel
theorem dL_act_84 : decode cL_act 84 = .ok (.iconst 3, 1) := by decide +kernel
theorem dL_act_85 : decode cL_act 85 = .ok (.idiv, 1) := by decide +kernel
theorem dL_act_86 : decode cL_act 86 = .ok (.bipush 20, 2) := by decide +kernel
theorem dL_act_88 : decode cL_act 88 = .ok (.irem, 1) := by decide +kernel
theorem dL_act_89 : decode cL_act 89 = .ok (.iadd, 1) := by decide +kernel
theorem dL_act_90 : decode cL_act 90 = .ok (.istore 8, 2) := by decide +kernel
theorem dL_act_92 : decode cL_act 92 = .ok (.aload_n 0, 1) := by decide +kernel
theorem dL_act_93 : decode cL_act 93 = .ok (.bipush 8, 2) := by decide +kernel
theorem dL_act_95 : decode cL_act 95 = .ok (.invokevirtual 14, 3) := by decide +kernel
theorem dL_act_98 : decode cL_act 98 = .ok (.istore 9, 2) := by decide +kernel
theorem dL_act_100 : decode cL_act 100 = .ok (.aload_n 0, 1) := by decide +kernel
theorem dL_act_101 : decode cL_act 101 = .ok (.iload 8, 2) := by decide +kernel
theorem dL_act_103 : decode cL_act 103 = .ok (.invokevirtual 50, 3) := by decide +kernel
theorem dL_act_106 : decode cL_act 106 = .ok (.istore 10, 2) := by decide +kernel
theorem dL_act_108 : decode cL_act 108 = .ok (.iload 4, 2) := by decide +kernel
theorem dL_act_110 : decode cL_act 110 = .ok (.bipush 12, 2) := by decide +kernel
theorem dL_act_112 : decode cL_act 112 = .ok (.if_icmp .ne 19, 3) := by decide +kernel
theorem dL_act_115 : decode cL_act 115 = .ok (.iload 10, 2) := by decide +kernel
theorem dL_act_117 : decode cL_act 117 = .ok (.bipush (-4), 2) := by decide +kernel
theorem dL_act_119 : decode cL_act 119 = .ok (.if_icmp .ne 7, 3) := by decide +kernel
theorem dL_act_122 : decode cL_act 122 = .ok (.iconst 0, 1) := by decide +kernel
theorem dL_act_123 : decode cL_act 123 = .ok (.goto 57, 3) := by decide +kernel
theorem dL_act_126 : decode cL_act 126 = .ok (.bipush (-9), 2) := by decide +kernel
theorem dL_act_128 : decode cL_act 128 = .ok (.goto 52, 3) := by decide +kernel
theorem dL_act_131 : decode cL_act 131 = .ok (.iload 10, 2) := by decide +kernel
theorem dL_act_133 : decode cL_act 133 = .ok (.iload 4, 2) := by decide +kernel
theorem dL_act_135 : decode cL_act 135 = .ok (.if_icmp .ne 43, 3) := by decide +kernel
theorem dL_act_138 : decode cL_act 138 = .ok (.aload_n 0, 1) := by decide +kernel
theorem dL_act_139 : decode cL_act 139 = .ok (.iload 10, 2) := by decide +kernel
theorem dL_act_141 : decode cL_act 141 = .ok (.iconst 0, 1) := by decide +kernel
theorem dL_act_142 : decode cL_act 142 = .ok (.invokevirtual 23, 3) := by decide +kernel
theorem dL_act_145 : decode cL_act 145 = .ok (.iload 8, 2) := by decide +kernel
theorem dL_act_147 : decode cL_act 147 = .ok (.if_icmp .ne 31, 3) := by decide +kernel
theorem dL_act_150 : decode cL_act 150 = .ok (.aload_n 0, 1) := by decide +kernel
theorem dL_act_151 : decode cL_act 151 = .ok (.iload 10, 2) := by decide +kernel
theorem dL_act_153 : decode cL_act 153 = .ok (.iconst 1, 1) := by decide +kernel
theorem dL_act_154 : decode cL_act 154 = .ok (.invokevirtual 23, 3) := by decide +kernel
theorem dL_act_157 : decode cL_act 157 = .ok (.ifCond .ne 21, 3) := by decide +kernel
theorem dL_act_160 : decode cL_act 160 = .ok (.aload_n 0, 1) := by decide +kernel
theorem dL_act_161 : decode cL_act 161 = .ok (.bipush 8, 2) := by decide +kernel
theorem dL_act_163 : decode cL_act 163 = .ok (.invokevirtual 14, 3) := by decide +kernel
theorem dL_act_166 : decode cL_act 166 = .ok (.iload 9, 2) := by decide +kernel
theorem dL_act_168 : decode cL_act 168 = .ok (.iload 8, 2) := by decide +kernel
theorem dL_act_170 : decode cL_act 170 = .ok (.iadd, 1) := by decide +kernel
theorem dL_act_171 : decode cL_act 171 = .ok (.if_icmp .ne 7, 3) := by decide +kernel
theorem dL_act_174 : decode cL_act 174 = .ok (.iconst 1, 1) := by decide +kernel
theorem dL_act_175 : decode cL_act 175 = .ok (.goto 5, 3) := by decide +kernel
theorem dL_act_178 : decode cL_act 178 = .ok (.bipush (-9), 2) := by decide +kernel
theorem dL_act_180 : decode cL_act 180 = .ok (.ireturn, 1) := by decide +kernel
theorem dL_act_181 : decode cL_act 181 = .ok (.iload_n 2, 1) := by decide +kernel
theorem dL_act_182 : decode cL_act 182 = .ok (.iconst 4, 1) := by decide +kernel
theorem dL_act_183 : decode cL_act 183 = .ok (.if_icmp .ge 82, 3) := by decide +kernel
theorem dL_act_186 : decode cL_act 186 = .ok (.aload_n 0, 1) := by decide +kernel
theorem dL_act_187 : decode cL_act 187 = .ok (.iload 6, 2) := by decide +kernel
theorem dL_act_189 : decode cL_act 189 = .ok (.iconst 1, 1) := by decide +kernel
theorem dL_act_190 : decode cL_act 190 = .ok (.invokevirtual 23, 3) := by decide +kernel
theorem dL_act_193 : decode cL_act 193 = .ok (.istore 8, 2) := by decide +kernel
theorem dL_act_195 : decode cL_act 195 = .ok (.aload_n 0, 1) := by decide +kernel
theorem dL_act_196 : decode cL_act 196 = .ok (.iconst 4, 1) := by decide +kernel
theorem dL_act_197 : decode cL_act 197 = .ok (.invokevirtual 14, 3) := by decide +kernel
theorem dL_act_200 : decode cL_act 200 = .ok (.istore 9, 2) := by decide +kernel
theorem dL_act_202 : decode cL_act 202 = .ok (.aload_n 0, 1) := by decide +kernel
theorem dL_act_203 : decode cL_act 203 = .ok (.iload 6, 2) := by decide +kernel
theorem dL_act_205 : decode cL_act 205 = .ok (.invokevirtual 53, 3) := by decide +kernel
theorem dL_act_208 : decode cL_act 208 = .ok (.istore 10, 2) := by decide +kernel
theorem dL_act_210 : decode cL_act 210 = .ok (.iload 8, 2) := by decide +kernel
theorem dL_act_212 : decode cL_act 212 = .ok (.ifCond .eq 19, 3) := by decide +kernel
theorem dL_act_215 : decode cL_act 215 = .ok (.iload 10, 2) := by decide +kernel
theorem dL_act_217 : decode cL_act 217 = .ok (.bipush (-5), 2) := by decide +kernel
theorem dL_act_219 : decode cL_act 219 = .ok (.if_icmp .ne 7, 3) := by decide +kernel
theorem dL_act_222 : decode cL_act 222 = .ok (.iconst 0, 1) := by decide +kernel
theorem dL_act_223 : decode cL_act 223 = .ok (.goto 41, 3) := by decide +kernel
theorem dL_act_226 : decode cL_act 226 = .ok (.bipush (-9), 2) := by decide +kernel
theorem dL_act_228 : decode cL_act 228 = .ok (.goto 36, 3) := by decide +kernel
theorem dL_act_231 : decode cL_act 231 = .ok (.iload 10, 2) := by decide +kernel
theorem dL_act_233 : decode cL_act 233 = .ok (.iload 9, 2) := by decide +kernel
theorem dL_act_235 : decode cL_act 235 = .ok (.invokestatic 102, 3) := by decide +kernel
theorem dL_act_238 : decode cL_act 238 = .ok (.iconst 1, 1) := by decide +kernel
theorem dL_act_239 : decode cL_act 239 = .ok (.iadd, 1) := by decide +kernel
theorem dL_act_240 : decode cL_act 240 = .ok (.if_icmp .ne 22, 3) := by decide +kernel
theorem dL_act_243 : decode cL_act 243 = .ok (.aload_n 0, 1) := by decide +kernel
theorem dL_act_244 : decode cL_act 244 = .ok (.iconst 4, 1) := by decide +kernel
theorem dL_act_245 : decode cL_act 245 = .ok (.invokevirtual 14, 3) := by decide +kernel
theorem dL_act_248 : decode cL_act 248 = .ok (.iload 9, 2) := by decide +kernel
theorem dL_act_250 : decode cL_act 250 = .ok (.iconst 1, 1) := by decide +kernel
theorem dL_act_251 : decode cL_act 251 = .ok (.iload 6, 2) := by decide +kernel
theorem dL_act_253 : decode cL_act 253 = .ok (.ishl, 1) := by decide +kernel
theorem dL_act_254 : decode cL_act 254 = .ok (.ior, 1) := by decide +kernel
theorem dL_act_255 : decode cL_act 255 = .ok (.if_icmp .ne 7, 3) := by decide +kernel
theorem dL_act_258 : decode cL_act 258 = .ok (.iconst 1, 1) := by decide +kernel
theorem dL_act_259 : decode cL_act 259 = .ok (.goto 5, 3) := by decide +kernel
theorem dL_act_262 : decode cL_act 262 = .ok (.bipush (-9), 2) := by decide +kernel
theorem dL_act_264 : decode cL_act 264 = .ok (.ireturn, 1) := by decide +kernel
theorem dL_act_265 : decode cL_act 265 = .ok (.iload_n 2, 1) := by decide +kernel
theorem dL_act_266 : decode cL_act 266 = .ok (.bipush 7, 2) := by decide +kernel
theorem dL_act_268 : decode cL_act 268 = .ok (.if_icmp .ge 229, 3) := by decide +kernel
theorem dL_act_271 : decode cL_act 271 = .ok (.iload_n 3, 1) := by decide +kernel
theorem dL_act_272 : decode cL_act 272 = .ok (.bipush 12, 2) := by decide +kernel
theorem dL_act_274 : decode cL_act 274 = .ok (.idiv, 1) := by decide +kernel
theorem dL_act_275 : decode cL_act 275 = .ok (.bipush 16, 2) := by decide +kernel
theorem dL_act_277 : decode cL_act 277 = .ok (.irem, 1) := by decide +kernel
theorem dL_act_278 : decode cL_act 278 = .ok (.istore 8, 2) := by decide +kernel
theorem dL_act_280 : decode cL_act 280 = .ok (.iconst 1, 1) := by decide +kernel
theorem dL_act_281 : decode cL_act 281 = .ok (.iload_n 3, 1) := by decide +kernel
theorem dL_act_282 : decode cL_act 282 = .ok (.sipush 192, 3) := by decide +kernel
theorem dL_act_285 : decode cL_act 285 = .ok (.idiv, 1) := by decide +kernel
theorem dL_act_286 : decode cL_act 286 = .ok (.iconst 5, 1) := by decide +kernel
theorem dL_act_287 : decode cL_act 287 = .ok (.irem, 1) := by decide +kernel
theorem dL_act_288 : decode cL_act 288 = .ok (.iadd, 1) := by decide +kernel
theorem dL_act_289 : decode cL_act 289 = .ok (.istore 9, 2) := by decide +kernel
theorem dL_act_291 : decode cL_act 291 = .ok (.aload_n 0, 1) := by decide +kernel
theorem dL_act_292 : decode cL_act 292 = .ok (.iload 6, 2) := by decide +kernel
theorem dL_act_294 : decode cL_act 294 = .ok (.iconst 1, 1) := by decide +kernel
theorem dL_act_295 : decode cL_act 295 = .ok (.invokevirtual 23, 3) := by decide +kernel
theorem dL_act_298 : decode cL_act 298 = .ok (.istore 10, 2) := by decide +kernel
theorem dL_act_300 : decode cL_act 300 = .ok (.iload 10, 2) := by decide +kernel
theorem dL_act_302 : decode cL_act 302 = .ok (.iconst 2, 1) := by decide +kernel
theorem dL_act_303 : decode cL_act 303 = .ok (.if_icmp .lt 25, 3) := by decide +kernel
theorem dL_act_306 : decode cL_act 306 = .ok (.iload 10, 2) := by decide +kernel
theorem dL_act_308 : decode cL_act 308 = .ok (.iconst 3, 1) := by decide +kernel
theorem dL_act_309 : decode cL_act 309 = .ok (.if_icmp .ne 23, 3) := by decide +kernel
theorem dL_act_312 : decode cL_act 312 = .ok (.aload_n 0, 1) := by decide +kernel
theorem dL_act_313 : decode cL_act 313 = .ok (.iload 6, 2) := by decide +kernel
theorem dL_act_315 : decode cL_act 315 = .ok (.iconst 3, 1) := by decide +kernel
theorem dL_act_316 : decode cL_act 316 = .ok (.invokevirtual 23, 3) := by decide +kernel
theorem dL_act_319 : decode cL_act 319 = .ok (.aload_n 0, 1) := by decide +kernel
theorem dL_act_320 : decode cL_act 320 = .ok (.bipush 17, 2) := by decide +kernel
theorem dL_act_322 : decode cL_act 322 = .ok (.invokevirtual 14, 3) := by decide +kernel
theorem dL_act_325 : decode cL_act 325 = .ok (.if_icmp .gt 7, 3) := by decide +kernel
theorem dL_act_328 : decode cL_act 328 = .ok (.iconst 1, 1) := by decide +kernel
theorem dL_act_329 : decode cL_act 329 = .ok (.goto 4, 3) := by decide +kernel
theorem dL_act_332 : decode cL_act 332 = .ok (.iconst 0, 1) := by decide +kernel
theorem dL_act_333 : decode cL_act 333 = .ok (.istore 11, 2) := by decide +kernel
theorem dL_act_335 : decode cL_act 335 = .ok (.iload 11, 2) := by decide +kernel
theorem dL_act_337 : decode cL_act 337 = .ok (.ifCond .eq 25, 3) := by decide +kernel
theorem dL_act_340 : decode cL_act 340 = .ok (.aload_n 0, 1) := by decide +kernel
theorem dL_act_341 : decode cL_act 341 = .ok (.iload 6, 2) := by decide +kernel
theorem dL_act_343 : decode cL_act 343 = .ok (.iconst 4, 1) := by decide +kernel
theorem dL_act_344 : decode cL_act 344 = .ok (.invokevirtual 23, 3) := by decide +kernel
theorem dL_act_347 : decode cL_act 347 = .ok (.aload_n 0, 1) := by decide +kernel
theorem dL_act_348 : decode cL_act 348 = .ok (.iload 8, 2) := by decide +kernel
theorem dL_act_350 : decode cL_act 350 = .ok (.iconst 2, 1) := by decide +kernel
theorem dL_act_351 : decode cL_act 351 = .ok (.invokevirtual 27, 3) := by decide +kernel
theorem dL_act_354 : decode cL_act 354 = .ok (.iand, 1) := by decide +kernel
theorem dL_act_355 : decode cL_act 355 = .ok (.ifCond .ne 7, 3) := by decide +kernel
theorem dL_act_358 : decode cL_act 358 = .ok (.iconst 1, 1) := by decide +kernel
theorem dL_act_359 : decode cL_act 359 = .ok (.goto 4, 3) := by decide +kernel
theorem dL_act_362 : decode cL_act 362 = .ok (.iconst 0, 1) := by decide +kernel
theorem dL_act_363 : decode cL_act 363 = .ok (.istore 11, 2) := by decide +kernel
theorem dL_act_365 : decode cL_act 365 = .ok (.aload_n 0, 1) := by decide +kernel
theorem dL_act_366 : decode cL_act 366 = .ok (.iload 8, 2) := by decide +kernel
theorem dL_act_368 : decode cL_act 368 = .ok (.iload 6, 2) := by decide +kernel
theorem dL_act_370 : decode cL_act 370 = .ok (.iload 9, 2) := by decide +kernel
theorem dL_act_372 : decode cL_act 372 = .ok (.invokevirtual 56, 3) := by decide +kernel
theorem dL_act_375 : decode cL_act 375 = .ok (.istore 12, 2) := by decide +kernel
theorem dL_act_377 : decode cL_act 377 = .ok (.iload 11, 2) := by decide +kernel
theorem dL_act_379 : decode cL_act 379 = .ok (.ifCond .ne 19, 3) := by decide +kernel
theorem dL_act_382 : decode cL_act 382 = .ok (.iload 12, 2) := by decide +kernel
theorem dL_act_384 : decode cL_act 384 = .ok (.bipush (-5), 2) := by decide +kernel
theorem dL_act_386 : decode cL_act 386 = .ok (.if_icmp .ne 7, 3) := by decide +kernel
theorem dL_act_389 : decode cL_act 389 = .ok (.iconst 0, 1) := by decide +kernel
theorem dL_act_390 : decode cL_act 390 = .ok (.goto 106, 3) := by decide +kernel
theorem dL_act_393 : decode cL_act 393 = .ok (.bipush (-9), 2) := by decide +kernel
theorem dL_act_395 : decode cL_act 395 = .ok (.goto 101, 3) := by decide +kernel
theorem dL_act_398 : decode cL_act 398 = .ok (.iload 5, 2) := by decide +kernel
theorem dL_act_400 : decode cL_act 400 = .ok (.bipush 30, 2) := by decide +kernel
theorem dL_act_402 : decode cL_act 402 = .ok (.if_icmp .ne 19, 3) := by decide +kernel
theorem dL_act_405 : decode cL_act 405 = .ok (.iload 12, 2) := by decide +kernel
theorem dL_act_407 : decode cL_act 407 = .ok (.bipush (-4), 2) := by decide +kernel
theorem dL_act_409 : decode cL_act 409 = .ok (.if_icmp .ne 7, 3) := by decide +kernel
theorem dL_act_412 : decode cL_act 412 = .ok (.iconst 0, 1) := by decide +kernel
theorem dL_act_413 : decode cL_act 413 = .ok (.goto 83, 3) := by decide +kernel
theorem dL_act_416 : decode cL_act 416 = .ok (.bipush (-9), 2) := by decide +kernel
theorem dL_act_418 : decode cL_act 418 = .ok (.goto 78, 3) := by decide +kernel
theorem dL_act_421 : decode cL_act 421 = .ok (.iload 12, 2) := by decide +kernel
theorem dL_act_423 : decode cL_act 423 = .ok (.iload 5, 2) := by decide +kernel
theorem dL_act_425 : decode cL_act 425 = .ok (.if_icmp .ne 69, 3) := by decide +kernel
theorem dL_act_428 : decode cL_act 428 = .ok (.aload_n 0, 1) := by decide +kernel
theorem dL_act_429 : decode cL_act 429 = .ok (.iload 12, 2) := by decide +kernel
theorem dL_act_431 : decode cL_act 431 = .ok (.iconst 0, 1) := by decide +kernel
theorem dL_act_432 : decode cL_act 432 = .ok (.invokevirtual 30, 3) := by decide +kernel
theorem dL_act_435 : decode cL_act 435 = .ok (.iload 8, 2) := by decide +kernel
theorem dL_act_437 : decode cL_act 437 = .ok (.if_icmp .ne 57, 3) := by decide +kernel
theorem dL_act_440 : decode cL_act 440 = .ok (.aload_n 0, 1) := by decide +kernel
theorem dL_act_441 : decode cL_act 441 = .ok (.iload 12, 2) := by decide +kernel
theorem dL_act_443 : decode cL_act 443 = .ok (.iconst 1, 1) := by decide +kernel
theorem dL_act_444 : decode cL_act 444 = .ok (.invokevirtual 30, 3) := by decide +kernel
theorem dL_act_447 : decode cL_act 447 = .ok (.iload 6, 2) := by decide +kernel
theorem dL_act_449 : decode cL_act 449 = .ok (.if_icmp .ne 45, 3) := by decide +kernel
theorem dL_act_452 : decode cL_act 452 = .ok (.aload_n 0, 1) := by decide +kernel
theorem dL_act_453 : decode cL_act 453 = .ok (.iload 12, 2) := by decide +kernel
theorem dL_act_455 : decode cL_act 455 = .ok (.iconst 2, 1) := by decide +kernel
theorem dL_act_456 : decode cL_act 456 = .ok (.invokevirtual 30, 3) := by decide +kernel
theorem dL_act_459 : decode cL_act 459 = .ok (.iload 9, 2) := by decide +kernel
theorem dL_act_461 : decode cL_act 461 = .ok (.if_icmp .ne 33, 3) := by decide +kernel
theorem dL_act_464 : decode cL_act 464 = .ok (.aload_n 0, 1) := by decide +kernel
theorem dL_act_465 : decode cL_act 465 = .ok (.iload 12, 2) := by decide +kernel
theorem dL_act_467 : decode cL_act 467 = .ok (.iconst 4, 1) := by decide +kernel
theorem dL_act_468 : decode cL_act 468 = .ok (.invokevirtual 30, 3) := by decide +kernel
theorem dL_act_471 : decode cL_act 471 = .ok (.ifCond .ne 23, 3) := by decide +kernel
theorem dL_act_474 : decode cL_act 474 = .ok (.aload_n 0, 1) := by decide +kernel
theorem dL_act_475 : decode cL_act 475 = .ok (.iload 6, 2) := by decide +kernel
theorem dL_act_477 : decode cL_act 477 = .ok (.iconst 4, 1) := by decide +kernel
theorem dL_act_478 : decode cL_act 478 = .ok (.invokevirtual 23, 3) := by decide +kernel
theorem dL_act_481 : decode cL_act 481 = .ok (.iload 12, 2) := by decide +kernel
theorem dL_act_483 : decode cL_act 483 = .ok (.ishr, 1) := by decide +kernel
theorem dL_act_484 : decode cL_act 484 = .ok (.iconst 1, 1) := by decide +kernel
theorem dL_act_485 : decode cL_act 485 = .ok (.iand, 1) := by decide +kernel
theorem dL_act_486 : decode cL_act 486 = .ok (.iconst 1, 1) := by decide +kernel
theorem dL_act_487 : decode cL_act 487 = .ok (.if_icmp .ne 7, 3) := by decide +kernel
theorem dL_act_490 : decode cL_act 490 = .ok (.iconst 1, 1) := by decide +kernel
theorem dL_act_491 : decode cL_act 491 = .ok (.goto 5, 3) := by decide +kernel
theorem dL_act_494 : decode cL_act 494 = .ok (.bipush (-9), 2) := by decide +kernel
theorem dL_act_496 : decode cL_act 496 = .ok (.ireturn, 1) := by decide +kernel
theorem dL_act_497 : decode cL_act 497 = .ok (.iload_n 2, 1) := by decide +kernel
theorem dL_act_498 : decode cL_act 498 = .ok (.bipush 11, 2) := by decide +kernel
theorem dL_act_500 : decode cL_act 500 = .ok (.if_icmp .ge 279, 3) := by decide +kernel
theorem dL_act_503 : decode cL_act 503 = .ok (.iload 5, 2) := by decide +kernel
theorem dL_act_505 : decode cL_act 505 = .ok (.ifCond .le 274, 3) := by decide +kernel
theorem dL_act_508 : decode cL_act 508 = .ok (.aload_n 0, 1) := by decide +kernel
theorem dL_act_509 : decode cL_act 509 = .ok (.iload 7, 2) := by decide +kernel
theorem dL_act_511 : decode cL_act 511 = .ok (.iconst 4, 1) := by decide +kernel
theorem dL_act_512 : decode cL_act 512 = .ok (.invokevirtual 30, 3) := by decide +kernel
theorem dL_act_515 : decode cL_act 515 = .ok (.istore 8, 2) := by decide +kernel
theorem dL_act_517 : decode cL_act 517 = .ok (.aload_n 0, 1) := by decide +kernel
theorem dL_act_518 : decode cL_act 518 = .ok (.iload 7, 2) := by decide +kernel
theorem dL_act_520 : decode cL_act 520 = .ok (.iconst 3, 1) := by decide +kernel
theorem dL_act_521 : decode cL_act 521 = .ok (.invokevirtual 30, 3) := by decide +kernel
theorem dL_act_524 : decode cL_act 524 = .ok (.istore 9, 2) := by decide +kernel
theorem dL_act_526 : decode cL_act 526 = .ok (.iload_n 2, 1) := by decide +kernel
theorem dL_act_527 : decode cL_act 527 = .ok (.bipush 9, 2) := by decide +kernel
theorem dL_act_529 : decode cL_act 529 = .ok (.if_icmp .ge 99, 3) := by decide +kernel
theorem dL_act_532 : decode cL_act 532 = .ok (.iconst 1, 1) := by decide +kernel
theorem dL_act_533 : decode cL_act 533 = .ok (.iload_n 3, 1) := by decide +kernel
theorem dL_act_534 : decode cL_act 534 = .ok (.bipush 30, 2) := by decide +kernel
theorem dL_act_536 : decode cL_act 536 = .ok (.idiv, 1) := by decide +kernel
theorem dL_act_537 : decode cL_act 537 = .ok (.bipush 100, 2) := by decide +kernel
theorem dL_act_539 : decode cL_act 539 = .ok (.irem, 1) := by decide +kernel
theorem dL_act_540 : decode cL_act 540 = .ok (.iadd, 1) := by decide +kernel
theorem dL_act_541 : decode cL_act 541 = .ok (.istore 10, 2) := by decide +kernel
theorem dL_act_543 : decode cL_act 543 = .ok (.aload_n 0, 1) := by decide +kernel
theorem dL_act_544 : decode cL_act 544 = .ok (.iload 7, 2) := by decide +kernel
theorem dL_act_546 : decode cL_act 546 = .ok (.iload 10, 2) := by decide +kernel
theorem dL_act_548 : decode cL_act 548 = .ok (.invokevirtual 60, 3) := by decide +kernel
theorem dL_act_551 : decode cL_act 551 = .ok (.istore 11, 2) := by decide +kernel
theorem dL_act_553 : decode cL_act 553 = .ok (.iload 8, 2) := by decide +kernel
theorem dL_act_555 : decode cL_act 555 = .ok (.ifCond .eq 19, 3) := by decide +kernel
theorem dL_act_558 : decode cL_act 558 = .ok (.iload 11, 2) := by decide +kernel
theorem dL_act_560 : decode cL_act 560 = .ok (.bipush (-5), 2) := by decide +kernel
theorem dL_act_562 : decode cL_act 562 = .ok (.if_icmp .ne 7, 3) := by decide +kernel
theorem dL_act_565 : decode cL_act 565 = .ok (.iconst 0, 1) := by decide +kernel
theorem dL_act_566 : decode cL_act 566 = .ok (.goto 61, 3) := by decide +kernel
theorem dL_act_569 : decode cL_act 569 = .ok (.bipush (-9), 2) := by decide +kernel
theorem dL_act_571 : decode cL_act 571 = .ok (.goto 56, 3) := by decide +kernel
theorem dL_act_574 : decode cL_act 574 = .ok (.iload 11, 2) := by decide +kernel
theorem dL_act_576 : decode cL_act 576 = .ok (.iload 9, 2) := by decide +kernel
theorem dL_act_578 : decode cL_act 578 = .ok (.iload 10, 2) := by decide +kernel
theorem dL_act_580 : decode cL_act 580 = .ok (.iadd, 1) := by decide +kernel
theorem dL_act_581 : decode cL_act 581 = .ok (.bipush 100, 2) := by decide +kernel
theorem dL_act_583 : decode cL_act 583 = .ok (.if_icmp .le 8, 3) := by decide +kernel
theorem dL_act_586 : decode cL_act 586 = .ok (.bipush 100, 2) := by decide +kernel
theorem dL_act_588 : decode cL_act 588 = .ok (.goto 8, 3) := by decide +kernel
theorem dL_act_591 : decode cL_act 591 = .ok (.iload 9, 2) := by decide +kernel
theorem dL_act_593 : decode cL_act 593 = .ok (.iload 10, 2) := by decide +kernel
theorem dL_act_595 : decode cL_act 595 = .ok (.iadd, 1) := by decide +kernel
theorem dL_act_596 : decode cL_act 596 = .ok (.if_icmp .ne 29, 3) := by decide +kernel
theorem dL_act_599 : decode cL_act 599 = .ok (.aload_n 0, 1) := by decide +kernel
theorem dL_act_600 : decode cL_act 600 = .ok (.iload 7, 2) := by decide +kernel
theorem dL_act_602 : decode cL_act 602 = .ok (.iconst 3, 1) := by decide +kernel
theorem dL_act_603 : decode cL_act 603 = .ok (.invokevirtual 30, 3) := by decide +kernel
theorem dL_act_606 : decode cL_act 606 = .ok (.iload 11, 2) := by decide +kernel
theorem dL_act_608 : decode cL_act 608 = .ok (.if_icmp .ne 17, 3) := by decide +kernel
theorem dL_act_611 : decode cL_act 611 = .ok (.aload_n 0, 1) := by decide +kernel
theorem dL_act_612 : decode cL_act 612 = .ok (.iload 7, 2) := by decide +kernel
theorem dL_act_614 : decode cL_act 614 = .ok (.iconst 5, 1) := by decide +kernel
theorem dL_act_615 : decode cL_act 615 = .ok (.invokevirtual 30, 3) := by decide +kernel
theorem dL_act_618 : decode cL_act 618 = .ok (.ifCond .ne 7, 3) := by decide +kernel
theorem dL_act_621 : decode cL_act 621 = .ok (.iconst 1, 1) := by decide +kernel
theorem dL_act_622 : decode cL_act 622 = .ok (.goto 5, 3) := by decide +kernel
theorem dL_act_625 : decode cL_act 625 = .ok (.bipush (-9), 2) := by decide +kernel
theorem dL_act_627 : decode cL_act 627 = .ok (.ireturn, 1) := by decide +kernel
theorem dL_act_628 : decode cL_act 628 = .ok (.iload_n 2, 1) := by decide +kernel
theorem dL_act_629 : decode cL_act 629 = .ok (.bipush 9, 2) := by decide +kernel
theorem dL_act_631 : decode cL_act 631 = .ok (.if_icmp .ne 76, 3) := by decide +kernel
theorem dL_act_634 : decode cL_act 634 = .ok (.iload 9, 2) := by decide +kernel
theorem dL_act_636 : decode cL_act 636 = .ok (.aload_n 0, 1) := by decide +kernel
theorem dL_act_637 : decode cL_act 637 = .ok (.bipush 15, 2) := by decide +kernel
theorem dL_act_639 : decode cL_act 639 = .ok (.invokevirtual 14, 3) := by decide +kernel
theorem dL_act_642 : decode cL_act 642 = .ok (.if_icmp .lt 7, 3) := by decide +kernel
theorem dL_act_645 : decode cL_act 645 = .ok (.iconst 1, 1) := by decide +kernel
theorem dL_act_646 : decode cL_act 646 = .ok (.goto 4, 3) := by decide +kernel
theorem dL_act_649 : decode cL_act 649 = .ok (.iconst 2, 1) := by decide +kernel
theorem dL_act_650 : decode cL_act 650 = .ok (.istore 10, 2) := by decide +kernel
theorem dL_act_652 : decode cL_act 652 = .ok (.aload_n 0, 1) := by decide +kernel
theorem dL_act_653 : decode cL_act 653 = .ok (.iload 7, 2) := by decide +kernel
theorem dL_act_655 : decode cL_act 655 = .ok (.invokevirtual 63, 3) := by decide +kernel
theorem dL_act_658 : decode cL_act 658 = .ok (.istore 11, 2) := by decide +kernel
theorem dL_act_660 : decode cL_act 660 = .ok (.iload 8, 2) := by decide +kernel
theorem dL_act_662 : decode cL_act 662 = .ok (.ifCond .eq 19, 3) := by decide +kernel
theorem dL_act_665 : decode cL_act 665 = .ok (.iload 11, 2) := by decide +kernel
theorem dL_act_667 : decode cL_act 667 = .ok (.bipush (-5), 2) := by decide +kernel
theorem dL_act_669 : decode cL_act 669 = .ok (.if_icmp .ne 7, 3) := by decide +kernel
theorem dL_act_672 : decode cL_act 672 = .ok (.iconst 0, 1) := by decide +kernel
theorem dL_act_673 : decode cL_act 673 = .ok (.goto 33, 3) := by decide +kernel
theorem dL_act_676 : decode cL_act 676 = .ok (.bipush (-9), 2) := by decide +kernel
theorem dL_act_678 : decode cL_act 678 = .ok (.goto 28, 3) := by decide +kernel
theorem dL_act_681 : decode cL_act 681 = .ok (.iload 11, 2) := by decide +kernel
theorem dL_act_683 : decode cL_act 683 = .ok (.iload 10, 2) := by decide +kernel
theorem dL_act_685 : decode cL_act 685 = .ok (.if_icmp .ne 19, 3) := by decide +kernel
theorem dL_act_688 : decode cL_act 688 = .ok (.aload_n 0, 1) := by decide +kernel
theorem dL_act_689 : decode cL_act 689 = .ok (.iload 7, 2) := by decide +kernel
theorem dL_act_691 : decode cL_act 691 = .ok (.iconst 4, 1) := by decide +kernel
theorem dL_act_692 : decode cL_act 692 = .ok (.invokevirtual 30, 3) := by decide +kernel
theorem dL_act_695 : decode cL_act 695 = .ok (.iload 10, 2) := by decide +kernel
theorem dL_act_697 : decode cL_act 697 = .ok (.if_icmp .ne 7, 3) := by decide +kernel
theorem dL_act_700 : decode cL_act 700 = .ok (.iconst 1, 1) := by decide +kernel
theorem dL_act_701 : decode cL_act 701 = .ok (.goto 5, 3) := by decide +kernel
theorem dL_act_704 : decode cL_act 704 = .ok (.bipush (-9), 2) := by decide +kernel
theorem dL_act_706 : decode cL_act 706 = .ok (.ireturn, 1) := by decide +kernel
theorem dL_act_707 : decode cL_act 707 = .ok (.aload_n 0, 1) := by decide +kernel
theorem dL_act_708 : decode cL_act 708 = .ok (.iload 7, 2) := by decide +kernel
theorem dL_act_710 : decode cL_act 710 = .ok (.iconst 1, 1) := by decide +kernel
theorem dL_act_711 : decode cL_act 711 = .ok (.invokevirtual 30, 3) := by decide +kernel
theorem dL_act_714 : decode cL_act 714 = .ok (.istore 10, 2) := by decide +kernel
theorem dL_act_716 : decode cL_act 716 = .ok (.aload_n 0, 1) := by decide +kernel
theorem dL_act_717 : decode cL_act 717 = .ok (.iload 7, 2) := by decide +kernel
theorem dL_act_719 : decode cL_act 719 = .ok (.invokevirtual 66, 3) := by decide +kernel
theorem dL_act_722 : decode cL_act 722 = .ok (.istore 11, 2) := by decide +kernel
theorem dL_act_724 : decode cL_act 724 = .ok (.iload 8, 2) := by decide +kernel
theorem dL_act_726 : decode cL_act 726 = .ok (.iconst 1, 1) := by decide +kernel
theorem dL_act_727 : decode cL_act 727 = .ok (.if_icmp .le 19, 3) := by decide +kernel
theorem dL_act_730 : decode cL_act 730 = .ok (.iload 11, 2) := by decide +kernel
theorem dL_act_732 : decode cL_act 732 = .ok (.bipush (-5), 2) := by decide +kernel
theorem dL_act_734 : decode cL_act 734 = .ok (.if_icmp .ne 7, 3) := by decide +kernel
theorem dL_act_737 : decode cL_act 737 = .ok (.iconst 0, 1) := by decide +kernel
theorem dL_act_738 : decode cL_act 738 = .ok (.goto 40, 3) := by decide +kernel
theorem dL_act_741 : decode cL_act 741 = .ok (.bipush (-9), 2) := by decide +kernel
theorem dL_act_743 : decode cL_act 743 = .ok (.goto 35, 3) := by decide +kernel
theorem dL_act_746 : decode cL_act 746 = .ok (.iload 11, 2) := by decide +kernel
theorem dL_act_748 : decode cL_act 748 = .ok (.aload_n 0, 1) := by decide +kernel
theorem dL_act_749 : decode cL_act 749 = .ok (.iload 10, 2) := by decide +kernel
theorem dL_act_751 : decode cL_act 751 = .ok (.iconst 4, 1) := by decide +kernel
theorem dL_act_752 : decode cL_act 752 = .ok (.invokevirtual 23, 3) := by decide +kernel
theorem dL_act_755 : decode cL_act 755 = .ok (.invokestatic 102, 3) := by decide +kernel
theorem dL_act_758 : decode cL_act 758 = .ok (.if_icmp .ne 18, 3) := by decide +kernel
theorem dL_act_761 : decode cL_act 761 = .ok (.aload_n 0, 1) := by decide +kernel
theorem dL_act_762 : decode cL_act 762 = .ok (.iload 7, 2) := by decide +kernel
theorem dL_act_764 : decode cL_act 764 = .ok (.iconst 4, 1) := by decide +kernel
theorem dL_act_765 : decode cL_act 765 = .ok (.invokevirtual 30, 3) := by decide +kernel
theorem dL_act_768 : decode cL_act 768 = .ok (.iconst 3, 1) := by decide +kernel
theorem dL_act_769 : decode cL_act 769 = .ok (.if_icmp .ne 7, 3) := by decide +kernel
theorem dL_act_772 : decode cL_act 772 = .ok (.iconst 1, 1) := by decide +kernel
theorem dL_act_773 : decode cL_act 773 = .ok (.goto 5, 3) := by decide +kernel
theorem dL_act_776 : decode cL_act 776 = .ok (.bipush (-9), 2) := by decide +kernel
theorem dL_act_778 : decode cL_act 778 = .ok (.ireturn, 1) := by decide +kernel
theorem dL_act_779 : decode cL_act 779 = .ok (.iload_n 2, 1) := by decide +kernel
theorem dL_act_780 : decode cL_act 780 = .ok (.bipush 13, 2) := by decide +kernel
theorem dL_act_782 : decode cL_act 782 = .ok (.if_icmp .ge 277, 3) := by decide +kernel
theorem dL_act_785 : decode cL_act 785 = .ok (.aload_n 0, 1) := by decide +kernel
theorem dL_act_786 : decode cL_act 786 = .ok (.iload 6, 2) := by decide +kernel
theorem dL_act_788 : decode cL_act 788 = .ok (.iconst 1, 1) := by decide +kernel
theorem dL_act_789 : decode cL_act 789 = .ok (.invokevirtual 23, 3) := by decide +kernel
theorem dL_act_792 : decode cL_act 792 = .ok (.istore 8, 2) := by decide +kernel
theorem dL_act_794 : decode cL_act 794 = .ok (.aload_n 0, 1) := by decide +kernel
theorem dL_act_795 : decode cL_act 795 = .ok (.iload 6, 2) := by decide +kernel
theorem dL_act_797 : decode cL_act 797 = .ok (.bipush 6, 2) := by decide +kernel
theorem dL_act_799 : decode cL_act 799 = .ok (.invokevirtual 23, 3) := by decide +kernel
theorem dL_act_802 : decode cL_act 802 = .ok (.istore 9, 2) := by decide +kernel
theorem dL_act_804 : decode cL_act 804 = .ok (.iload 8, 2) := by decide +kernel
theorem dL_act_806 : decode cL_act 806 = .ok (.iconst 2, 1) := by decide +kernel
theorem dL_act_807 : decode cL_act 807 = .ok (.if_icmp .eq 20, 3) := by decide +kernel
theorem dL_act_810 : decode cL_act 810 = .ok (.iload 8, 2) := by decide +kernel
theorem dL_act_812 : decode cL_act 812 = .ok (.iconst 4, 1) := by decide +kernel
theorem dL_act_813 : decode cL_act 813 = .ok (.if_icmp .eq 14, 3) := by decide +kernel
theorem dL_act_816 : decode cL_act 816 = .ok (.iload 9, 2) := by decide +kernel
theorem dL_act_818 : decode cL_act 818 = .ok (.bipush (-6), 2) := by decide +kernel
theorem dL_act_820 : decode cL_act 820 = .ok (.if_icmp .eq 7, 3) := by decide +kernel
theorem dL_act_823 : decode cL_act 823 = .ok (.iconst 1, 1) := by decide +kernel
theorem dL_act_824 : decode cL_act 824 = .ok (.goto 4, 3) := by decide +kernel
theorem dL_act_827 : decode cL_act 827 = .ok (.iconst 0, 1) := by decide +kernel
theorem dL_act_828 : decode cL_act 828 = .ok (.istore 10, 2) := by decide +kernel
theorem dL_act_830 : decode cL_act 830 = .ok (.aload_n 0, 1) := by decide +kernel
theorem dL_act_831 : decode cL_act 831 = .ok (.iload 6, 2) := by decide +kernel
theorem dL_act_833 : decode cL_act 833 = .ok (.iconst 4, 1) := by decide +kernel
theorem dL_act_834 : decode cL_act 834 = .ok (.invokevirtual 23, 3) := by decide +kernel
theorem dL_act_837 : decode cL_act 837 = .ok (.istore 11, 2) := by decide +kernel
theorem dL_act_839 : decode cL_act 839 = .ok (.iconst 0, 1) := by decide +kernel
theorem dL_act_840 : decode cL_act 840 = .ok (.istore 12, 2) := by decide +kernel
theorem dL_act_842 : decode cL_act 842 = .ok (.iload 12, 2) := by decide +kernel
theorem dL_act_844 : decode cL_act 844 = .ok (.iload 5, 2) := by decide +kernel
theorem dL_act_846 : decode cL_act 846 = .ok (.if_icmp .ge 42, 3) := by decide +kernel
theorem dL_act_849 : decode cL_act 849 = .ok (.iload 10, 2) := by decide +kernel
theorem dL_act_851 : decode cL_act 851 = .ok (.ifCond .eq 28, 3) := by decide +kernel
theorem dL_act_854 : decode cL_act 854 = .ok (.iload 11, 2) := by decide +kernel
theorem dL_act_856 : decode cL_act 856 = .ok (.iload 12, 2) := by decide +kernel
theorem dL_act_858 : decode cL_act 858 = .ok (.ishr, 1) := by decide +kernel
theorem dL_act_859 : decode cL_act 859 = .ok (.iconst 1, 1) := by decide +kernel
theorem dL_act_860 : decode cL_act 860 = .ok (.iand, 1) := by decide +kernel
theorem dL_act_861 : decode cL_act 861 = .ok (.ifCond .eq 14, 3) := by decide +kernel
theorem dL_act_864 : decode cL_act 864 = .ok (.aload_n 0, 1) := by decide +kernel
theorem dL_act_865 : decode cL_act 865 = .ok (.iload 12, 2) := by decide +kernel
theorem dL_act_867 : decode cL_act 867 = .ok (.iconst 4, 1) := by decide +kernel
theorem dL_act_868 : decode cL_act 868 = .ok (.invokevirtual 30, 3) := by decide +kernel
theorem dL_act_871 : decode cL_act 871 = .ok (.iconst 1, 1) := by decide +kernel
theorem dL_act_872 : decode cL_act 872 = .ok (.if_icmp .ne 7, 3) := by decide +kernel
theorem dL_act_875 : decode cL_act 875 = .ok (.iconst 1, 1) := by decide +kernel
theorem dL_act_876 : decode cL_act 876 = .ok (.goto 4, 3) := by decide +kernel
theorem dL_act_879 : decode cL_act 879 = .ok (.iconst 0, 1) := by decide +kernel
theorem dL_act_880 : decode cL_act 880 = .ok (.istore 10, 2) := by decide +kernel
theorem dL_act_882 : decode cL_act 882 = .ok (.iinc 12 1, 3) := by decide +kernel
theorem dL_act_885 : decode cL_act 885 = .ok (.goto (-43), 3) := by decide +kernel
theorem dL_act_888 : decode cL_act 888 = .ok (.aload_n 0, 1) := by decide +kernel
theorem dL_act_889 : decode cL_act 889 = .ok (.bipush 11, 2) := by decide +kernel
theorem dL_act_891 : decode cL_act 891 = .ok (.invokevirtual 14, 3) := by decide +kernel
theorem dL_act_894 : decode cL_act 894 = .ok (.istore 12, 2) := by decide +kernel
theorem dL_act_896 : decode cL_act 896 = .ok (.aload_n 0, 1) := by decide +kernel
theorem dL_act_897 : decode cL_act 897 = .ok (.bipush 10, 2) := by decide +kernel
theorem dL_act_899 : decode cL_act 899 = .ok (.invokevirtual 14, 3) := by decide +kernel
theorem dL_act_902 : decode cL_act 902 = .ok (.istore 13, 2) := by decide +kernel
theorem dL_act_904 : decode cL_act 904 = .ok (.aload_n 0, 1) := by decide +kernel
theorem dL_act_905 : decode cL_act 905 = .ok (.iload 6, 2) := by decide +kernel
theorem dL_act_907 : decode cL_act 907 = .ok (.invokevirtual 69, 3) := by decide +kernel
theorem dL_act_910 : decode cL_act 910 = .ok (.istore 14, 2) := by decide +kernel
theorem dL_act_912 : decode cL_act 912 = .ok (.iload 10, 2) := by decide +kernel
theorem dL_act_914 : decode cL_act 914 = .ok (.ifCond .ne 17, 3) := by decide +kernel
theorem dL_act_917 : decode cL_act 917 = .ok (.iload 14, 2) := by decide +kernel
theorem dL_act_919 : decode cL_act 919 = .ok (.bipush (-5), 2) := by decide +kernel
theorem dL_act_921 : decode cL_act 921 = .ok (.if_icmp .ne 7, 3) := by decide +kernel
theorem dL_act_924 : decode cL_act 924 = .ok (.iconst 0, 1) := by decide +kernel
theorem dL_act_925 : decode cL_act 925 = .ok (.goto 5, 3) := by decide +kernel
theorem dL_act_928 : decode cL_act 928 = .ok (.bipush (-9), 2) := by decide +kernel
theorem dL_act_930 : decode cL_act 930 = .ok (.ireturn, 1) := by decide +kernel
theorem dL_act_931 : decode cL_act 931 = .ok (.aload_n 0, 1) := by decide +kernel
theorem dL_act_932 : decode cL_act 932 = .ok (.iload 6, 2) := by decide +kernel
theorem dL_act_934 : decode cL_act 934 = .ok (.iconst 0, 1) := by decide +kernel
theorem dL_act_935 : decode cL_act 935 = .ok (.invokevirtual 23, 3) := by decide +kernel
theorem dL_act_938 : decode cL_act 938 = .ok (.iload 8, 2) := by decide +kernel
theorem dL_act_940 : decode cL_act 940 = .ok (.iconst 3, 1) := by decide +kernel
theorem dL_act_941 : decode cL_act 941 = .ok (.if_icmp .ne 23, 3) := by decide +kernel
theorem dL_act_944 : decode cL_act 944 = .ok (.aload_n 0, 1) := by decide +kernel
theorem dL_act_945 : decode cL_act 945 = .ok (.iload 6, 2) := by decide +kernel
theorem dL_act_947 : decode cL_act 947 = .ok (.iconst 0, 1) := by decide +kernel
theorem dL_act_948 : decode cL_act 948 = .ok (.invokevirtual 23, 3) := by decide +kernel
theorem dL_act_951 : decode cL_act 951 = .ok (.aload_n 0, 1) := by decide +kernel
theorem dL_act_952 : decode cL_act 952 = .ok (.bipush 18, 2) := by decide +kernel
theorem dL_act_954 : decode cL_act 954 = .ok (.invokevirtual 14, 3) := by decide +kernel
theorem dL_act_957 : decode cL_act 957 = .ok (.imul, 1) := by decide +kernel
theorem dL_act_958 : decode cL_act 958 = .ok (.bipush 100, 2) := by decide +kernel
theorem dL_act_960 : decode cL_act 960 = .ok (.idiv, 1) := by decide +kernel
theorem dL_act_961 : decode cL_act 961 = .ok (.goto 4, 3) := by decide +kernel
theorem dL_act_964 : decode cL_act 964 = .ok (.iconst 0, 1) := by decide +kernel
theorem dL_act_965 : decode cL_act 965 = .ok (.isub, 1) := by decide +kernel
theorem dL_act_966 : decode cL_act 966 = .ok (.istore 15, 2) := by decide +kernel
theorem dL_act_968 : decode cL_act 968 = .ok (.iload 14, 2) := by decide +kernel
theorem dL_act_970 : decode cL_act 970 = .ok (.ifCond .le 86, 3) := by decide +kernel
theorem dL_act_973 : decode cL_act 973 = .ok (.iload 14, 2) := by decide +kernel
theorem dL_act_975 : decode cL_act 975 = .ok (.iload 11, 2) := by decide +kernel
theorem dL_act_977 : decode cL_act 977 = .ok (.invokestatic 102, 3) := by decide +kernel
theorem dL_act_980 : decode cL_act 980 = .ok (.if_icmp .gt 76, 3) := by decide +kernel
theorem dL_act_983 : decode cL_act 983 = .ok (.aload_n 0, 1) := by decide +kernel
theorem dL_act_984 : decode cL_act 984 = .ok (.bipush 11, 2) := by decide +kernel
theorem dL_act_986 : decode cL_act 986 = .ok (.invokevirtual 14, 3) := by decide +kernel
theorem dL_act_989 : decode cL_act 989 = .ok (.iload 12, 2) := by decide +kernel
theorem dL_act_991 : decode cL_act 991 = .ok (.iload 15, 2) := by decide +kernel
theorem dL_act_993 : decode cL_act 993 = .ok (.iadd, 1) := by decide +kernel
theorem dL_act_994 : decode cL_act 994 = .ok (.if_icmp .ne 62, 3) := by decide +kernel
theorem dL_act_997 : decode cL_act 997 = .ok (.aload_n 0, 1) := by decide +kernel
theorem dL_act_998 : decode cL_act 998 = .ok (.bipush 10, 2) := by decide +kernel
theorem dL_act_1000 : decode cL_act 1000 = .ok (.invokevirtual 14, 3) := by decide +kernel
theorem dL_act_1003 : decode cL_act 1003 = .ok (.iload 13, 2) := by decide +kernel
theorem dL_act_1005 : decode cL_act 1005 = .ok (.iload 8, 2) := by decide +kernel
theorem dL_act_1007 : decode cL_act 1007 = .ok (.iconst 3, 1) := by decide +kernel
theorem dL_act_1008 : decode cL_act 1008 = .ok (.if_icmp .ne 8, 3) := by decide +kernel
theorem dL_act_1011 : decode cL_act 1011 = .ok (.iload 15, 2) := by decide +kernel
theorem dL_act_1013 : decode cL_act 1013 = .ok (.goto 4, 3) := by decide +kernel
theorem dL_act_1016 : decode cL_act 1016 = .ok (.iconst 0, 1) := by decide +kernel
theorem dL_act_1017 : decode cL_act 1017 = .ok (.isub, 1) := by decide +kernel
theorem dL_act_1018 : decode cL_act 1018 = .ok (.if_icmp .ne 38, 3) := by decide +kernel
theorem dL_act_1021 : decode cL_act 1021 = .ok (.aload_n 0, 1) := by decide +kernel
theorem dL_act_1022 : decode cL_act 1022 = .ok (.iload 6, 2) := by decide +kernel
theorem dL_act_1024 : decode cL_act 1024 = .ok (.iconst 1, 1) := by decide +kernel
theorem dL_act_1025 : decode cL_act 1025 = .ok (.invokevirtual 23, 3) := by decide +kernel
theorem dL_act_1028 : decode cL_act 1028 = .ok (.iload 8, 2) := by decide +kernel
theorem dL_act_1030 : decode cL_act 1030 = .ok (.iconst 3, 1) := by decide +kernel
theorem dL_act_1031 : decode cL_act 1031 = .ok (.if_icmp .ne 7, 3) := by decide +kernel
theorem dL_act_1034 : decode cL_act 1034 = .ok (.iconst 4, 1) := by decide +kernel
theorem dL_act_1035 : decode cL_act 1035 = .ok (.goto 4, 3) := by decide +kernel
theorem dL_act_1038 : decode cL_act 1038 = .ok (.iconst 2, 1) := by decide +kernel
theorem dL_act_1039 : decode cL_act 1039 = .ok (.if_icmp .ne 17, 3) := by decide +kernel
theorem dL_act_1042 : decode cL_act 1042 = .ok (.aload_n 0, 1) := by decide +kernel
theorem dL_act_1043 : decode cL_act 1043 = .ok (.iload 6, 2) := by decide +kernel
theorem dL_act_1045 : decode cL_act 1045 = .ok (.iconst 4, 1) := by decide +kernel
theorem dL_act_1046 : decode cL_act 1046 = .ok (.invokevirtual 23, 3) := by decide +kernel
theorem dL_act_1049 : decode cL_act 1049 = .ok (.ifCond .ne 7, 3) := by decide +kernel
theorem dL_act_1052 : decode cL_act 1052 = .ok (.iconst 1, 1) := by decide +kernel
theorem dL_act_1053 : decode cL_act 1053 = .ok (.goto 5, 3) := by decide +kernel
theorem dL_act_1056 : decode cL_act 1056 = .ok (.bipush (-9), 2) := by decide +kernel
theorem dL_act_1058 : decode cL_act 1058 = .ok (.ireturn, 1) := by decide +kernel
theorem dL_act_1059 : decode cL_act 1059 = .ok (.iload_n 2, 1) := by decide +kernel
theorem dL_act_1060 : decode cL_act 1060 = .ok (.bipush 15, 2) := by decide +kernel
theorem dL_act_1062 : decode cL_act 1062 = .ok (.if_icmp .ge 153, 3) := by decide +kernel
theorem dL_act_1065 : decode cL_act 1065 = .ok (.iload_n 3, 1) := by decide +kernel
theorem dL_act_1066 : decode cL_act 1066 = .ok (.iconst 3, 1) := by decide +kernel
theorem dL_act_1067 : decode cL_act 1067 = .ok (.irem, 1) := by decide +kernel
theorem dL_act_1068 : decode cL_act 1068 = .ok (.ifCond .ne 14, 3) := by decide +kernel
theorem dL_act_1071 : decode cL_act 1071 = .ok (.iconst 1, 1) := by decide +kernel
theorem dL_act_1072 : decode cL_act 1072 = .ok (.iload_n 3, 1) := by decide +kernel
theorem dL_act_1073 : decode cL_act 1073 = .ok (.iconst 3, 1) := by decide +kernel
theorem dL_act_1074 : decode cL_act 1074 = .ok (.idiv, 1) := by decide +kernel
theorem dL_act_1075 : decode cL_act 1075 = .ok (.bipush 100, 2) := by decide +kernel
theorem dL_act_1077 : decode cL_act 1077 = .ok (.irem, 1) := by decide +kernel
theorem dL_act_1078 : decode cL_act 1078 = .ok (.iadd, 1) := by decide +kernel
theorem dL_act_1079 : decode cL_act 1079 = .ok (.goto 11, 3) := by decide +kernel
theorem dL_act_1082 : decode cL_act 1082 = .ok (.iconst 1, 1) := by decide +kernel
theorem dL_act_1083 : decode cL_act 1083 = .ok (.iload_n 3, 1) := by decide +kernel
theorem dL_act_1084 : decode cL_act 1084 = .ok (.iconst 3, 1) := by decide +kernel
theorem dL_act_1085 : decode cL_act 1085 = .ok (.idiv, 1) := by decide +kernel
theorem dL_act_1086 : decode cL_act 1086 = .ok (.bipush 12, 2) := by decide +kernel
theorem dL_act_1088 : decode cL_act 1088 = .ok (.irem, 1) := by decide +kernel
theorem dL_act_1089 : decode cL_act 1089 = .ok (.iadd, 1) := by decide +kernel
theorem dL_act_1090 : decode cL_act 1090 = .ok (.istore 8, 2) := by decide +kernel
theorem dL_act_1092 : decode cL_act 1092 = .ok (.aload_n 0, 1) := by decide +kernel
theorem dL_act_1093 : decode cL_act 1093 = .ok (.iconst 0, 1) := by decide +kernel
theorem dL_act_1094 : decode cL_act 1094 = .ok (.invokevirtual 14, 3) := by decide +kernel
theorem dL_act_1097 : decode cL_act 1097 = .ok (.istore 9, 2) := by decide +kernel
theorem dL_act_1099 : decode cL_act 1099 = .ok (.aload_n 0, 1) := by decide +kernel
theorem dL_act_1100 : decode cL_act 1100 = .ok (.bipush 6, 2) := by decide +kernel
theorem dL_act_1102 : decode cL_act 1102 = .ok (.invokevirtual 14, 3) := by decide +kernel
theorem dL_act_1105 : decode cL_act 1105 = .ok (.istore 10, 2) := by decide +kernel
theorem dL_act_1107 : decode cL_act 1107 = .ok (.aload_n 0, 1) := by decide +kernel
theorem dL_act_1108 : decode cL_act 1108 = .ok (.bipush 10, 2) := by decide +kernel
theorem dL_act_1110 : decode cL_act 1110 = .ok (.invokevirtual 14, 3) := by decide +kernel
theorem dL_act_1113 : decode cL_act 1113 = .ok (.istore 11, 2) := by decide +kernel
theorem dL_act_1115 : decode cL_act 1115 = .ok (.aload_n 0, 1) := by decide +kernel
theorem dL_act_1116 : decode cL_act 1116 = .ok (.iload 8, 2) := by decide +kernel
theorem dL_act_1118 : decode cL_act 1118 = .ok (.invokevirtual 72, 3) := by decide +kernel
theorem dL_act_1121 : decode cL_act 1121 = .ok (.istore 12, 2) := by decide +kernel
theorem dL_act_1123 : decode cL_act 1123 = .ok (.iload 9, 2) := by decide +kernel
theorem dL_act_1125 : decode cL_act 1125 = .ok (.iload 8, 2) := by decide +kernel
theorem dL_act_1127 : decode cL_act 1127 = .ok (.iadd, 1) := by decide +kernel
theorem dL_act_1128 : decode cL_act 1128 = .ok (.sipush 9999, 3) := by decide +kernel
theorem dL_act_1131 : decode cL_act 1131 = .ok (.if_icmp .le 19, 3) := by decide +kernel
theorem dL_act_1134 : decode cL_act 1134 = .ok (.iload 12, 2) := by decide +kernel
theorem dL_act_1136 : decode cL_act 1136 = .ok (.bipush (-5), 2) := by decide +kernel
theorem dL_act_1138 : decode cL_act 1138 = .ok (.if_icmp .ne 7, 3) := by decide +kernel
theorem dL_act_1141 : decode cL_act 1141 = .ok (.iconst 0, 1) := by decide +kernel
theorem dL_act_1142 : decode cL_act 1142 = .ok (.goto 72, 3) := by decide +kernel
theorem dL_act_1145 : decode cL_act 1145 = .ok (.bipush (-9), 2) := by decide +kernel
theorem dL_act_1147 : decode cL_act 1147 = .ok (.goto 67, 3) := by decide +kernel
theorem dL_act_1150 : decode cL_act 1150 = .ok (.aload_n 0, 1) := by decide +kernel
theorem dL_act_1151 : decode cL_act 1151 = .ok (.iconst 0, 1) := by decide +kernel
theorem dL_act_1152 : decode cL_act 1152 = .ok (.invokevirtual 14, 3) := by decide +kernel
theorem dL_act_1155 : decode cL_act 1155 = .ok (.iload 9, 2) := by decide +kernel
theorem dL_act_1157 : decode cL_act 1157 = .ok (.iload 8, 2) := by decide +kernel
theorem dL_act_1159 : decode cL_act 1159 = .ok (.iadd, 1) := by decide +kernel
theorem dL_act_1160 : decode cL_act 1160 = .ok (.if_icmp .ne 52, 3) := by decide +kernel
theorem dL_act_1163 : decode cL_act 1163 = .ok (.aload_n 0, 1) := by decide +kernel
theorem dL_act_1164 : decode cL_act 1164 = .ok (.bipush 6, 2) := by decide +kernel
theorem dL_act_1166 : decode cL_act 1166 = .ok (.invokevirtual 14, 3) := by decide +kernel
theorem dL_act_1169 : decode cL_act 1169 = .ok (.iload 10, 2) := by decide +kernel
theorem dL_act_1171 : decode cL_act 1171 = .ok (.iand, 1) := by decide +kernel
theorem dL_act_1172 : decode cL_act 1172 = .ok (.iload 10, 2) := by decide +kernel
theorem dL_act_1174 : decode cL_act 1174 = .ok (.if_icmp .ne 38, 3) := by decide +kernel
theorem dL_act_1177 : decode cL_act 1177 = .ok (.aload_n 0, 1) := by decide +kernel
theorem dL_act_1178 : decode cL_act 1178 = .ok (.bipush 6, 2) := by decide +kernel
theorem dL_act_1180 : decode cL_act 1180 = .ok (.invokevirtual 14, 3) := by decide +kernel
theorem dL_act_1183 : decode cL_act 1183 = .ok (.invokestatic 102, 3) := by decide +kernel
theorem dL_act_1186 : decode cL_act 1186 = .ok (.iload 10, 2) := by decide +kernel
theorem dL_act_1188 : decode cL_act 1188 = .ok (.invokestatic 102, 3) := by decide +kernel
theorem dL_act_1191 : decode cL_act 1191 = .ok (.iload 12, 2) := by decide +kernel
theorem dL_act_1193 : decode cL_act 1193 = .ok (.iadd, 1) := by decide +kernel
theorem dL_act_1194 : decode cL_act 1194 = .ok (.if_icmp .ne 18, 3) := by decide +kernel
theorem dL_act_1197 : decode cL_act 1197 = .ok (.aload_n 0, 1) := by decide +kernel
theorem dL_act_1198 : decode cL_act 1198 = .ok (.bipush 10, 2) := by decide +kernel
theorem dL_act_1200 : decode cL_act 1200 = .ok (.invokevirtual 14, 3) := by decide +kernel
theorem dL_act_1203 : decode cL_act 1203 = .ok (.iload 11, 2) := by decide +kernel
theorem dL_act_1205 : decode cL_act 1205 = .ok (.if_icmp .lt 7, 3) := by decide +kernel
theorem dL_act_1208 : decode cL_act 1208 = .ok (.iconst 1, 1) := by decide +kernel
theorem dL_act_1209 : decode cL_act 1209 = .ok (.goto 5, 3) := by decide +kernel
theorem dL_act_1212 : decode cL_act 1212 = .ok (.bipush (-9), 2) := by decide +kernel
theorem dL_act_1214 : decode cL_act 1214 = .ok (.ireturn, 1) := by decide +kernel
theorem dL_act_1215 : decode cL_act 1215 = .ok (.iload_n 3, 1) := by decide +kernel
theorem dL_act_1216 : decode cL_act 1216 = .ok (.iconst 5, 1) := by decide +kernel
theorem dL_act_1217 : decode cL_act 1217 = .ok (.irem, 1) := by decide +kernel
theorem dL_act_1218 : decode cL_act 1218 = .ok (.istore 8, 2) := by decide +kernel
theorem dL_act_1220 : decode cL_act 1220 = .ok (.iload_n 3, 1) := by decide +kernel
theorem dL_act_1221 : decode cL_act 1221 = .ok (.iconst 5, 1) := by decide +kernel
theorem dL_act_1222 : decode cL_act 1222 = .ok (.idiv, 1) := by decide +kernel
theorem dL_act_1223 : decode cL_act 1223 = .ok (.istore 9, 2) := by decide +kernel
theorem dL_act_1225 : decode cL_act 1225 = .ok (.iload 8, 2) := by decide +kernel
theorem dL_act_1227 : decode cL_act 1227 = .ok (.ifCond .ne 13, 3) := by decide +kernel
theorem dL_act_1230 : decode cL_act 1230 = .ok (.iconst 1, 1) := by decide +kernel
theorem dL_act_1231 : decode cL_act 1231 = .ok (.iload 9, 2) := by decide +kernel
theorem dL_act_1233 : decode cL_act 1233 = .ok (.bipush 60, 2) := by decide +kernel
theorem dL_act_1235 : decode cL_act 1235 = .ok (.irem, 1) := by decide +kernel
theorem dL_act_1236 : decode cL_act 1236 = .ok (.iadd, 1) := by decide +kernel
theorem dL_act_1237 : decode cL_act 1237 = .ok (.goto 54, 3) := by decide +kernel
theorem dL_act_1240 : decode cL_act 1240 = .ok (.iload 8, 2) := by decide +kernel
theorem dL_act_1242 : decode cL_act 1242 = .ok (.iconst 1, 1) := by decide +kernel
theorem dL_act_1243 : decode cL_act 1243 = .ok (.if_icmp .ne 13, 3) := by decide +kernel
theorem dL_act_1246 : decode cL_act 1246 = .ok (.iconst 1, 1) := by decide +kernel
theorem dL_act_1247 : decode cL_act 1247 = .ok (.iload 9, 2) := by decide +kernel
theorem dL_act_1249 : decode cL_act 1249 = .ok (.bipush 100, 2) := by decide +kernel
theorem dL_act_1251 : decode cL_act 1251 = .ok (.irem, 1) := by decide +kernel
theorem dL_act_1252 : decode cL_act 1252 = .ok (.iadd, 1) := by decide +kernel
theorem dL_act_1253 : decode cL_act 1253 = .ok (.goto 38, 3) := by decide +kernel
theorem dL_act_1256 : decode cL_act 1256 = .ok (.iload 8, 2) := by decide +kernel
theorem dL_act_1258 : decode cL_act 1258 = .ok (.iconst 2, 1) := by decide +kernel
theorem dL_act_1259 : decode cL_act 1259 = .ok (.if_icmp .ne 13, 3) := by decide +kernel
theorem dL_act_1262 : decode cL_act 1262 = .ok (.iconst 1, 1) := by decide +kernel
theorem dL_act_1263 : decode cL_act 1263 = .ok (.iload 9, 2) := by decide +kernel
theorem dL_act_1265 : decode cL_act 1265 = .ok (.bipush 50, 2) := by decide +kernel
theorem dL_act_1267 : decode cL_act 1267 = .ok (.irem, 1) := by decide +kernel
theorem dL_act_1268 : decode cL_act 1268 = .ok (.iadd, 1) := by decide +kernel
theorem dL_act_1269 : decode cL_act 1269 = .ok (.goto 22, 3) := by decide +kernel
theorem dL_act_1272 : decode cL_act 1272 = .ok (.iload 8, 2) := by decide +kernel
theorem dL_act_1274 : decode cL_act 1274 = .ok (.iconst 3, 1) := by decide +kernel
theorem dL_act_1275 : decode cL_act 1275 = .ok (.if_icmp .ne 11, 3) := by decide +kernel
theorem dL_act_1278 : decode cL_act 1278 = .ok (.iload 9, 2) := by decide +kernel
theorem dL_act_1280 : decode cL_act 1280 = .ok (.bipush 40, 2) := by decide +kernel
theorem dL_act_1282 : decode cL_act 1282 = .ok (.irem, 1) := by decide +kernel
theorem dL_act_1283 : decode cL_act 1283 = .ok (.goto 8, 3) := by decide +kernel
theorem dL_act_1286 : decode cL_act 1286 = .ok (.iload 9, 2) := by decide +kernel
theorem dL_act_1288 : decode cL_act 1288 = .ok (.bipush 51, 2) := by decide +kernel
theorem dL_act_1290 : decode cL_act 1290 = .ok (.irem, 1) := by decide +kernel
theorem dL_act_1291 : decode cL_act 1291 = .ok (.istore 10, 2) := by decide +kernel
theorem dL_act_1293 : decode cL_act 1293 = .ok (.aload_n 0, 1) := by decide +kernel
theorem dL_act_1294 : decode cL_act 1294 = .ok (.bipush 14, 2) := by decide +kernel
theorem dL_act_1296 : decode cL_act 1296 = .ok (.iload 8, 2) := by decide +kernel
theorem dL_act_1298 : decode cL_act 1298 = .ok (.iadd, 1) := by decide +kernel
theorem dL_act_1299 : decode cL_act 1299 = .ok (.invokevirtual 14, 3) := by decide +kernel
theorem dL_act_1302 : decode cL_act 1302 = .ok (.istore 11, 2) := by decide +kernel
theorem dL_act_1304 : decode cL_act 1304 = .ok (.aload_n 0, 1) := by decide +kernel
theorem dL_act_1305 : decode cL_act 1305 = .ok (.iload 8, 2) := by decide +kernel
theorem dL_act_1307 : decode cL_act 1307 = .ok (.iload 10, 2) := by decide +kernel
theorem dL_act_1309 : decode cL_act 1309 = .ok (.invokevirtual 47, 3) := by decide +kernel
theorem dL_act_1312 : decode cL_act 1312 = .ok (.iload 11, 2) := by decide +kernel
theorem dL_act_1314 : decode cL_act 1314 = .ok (.if_icmp .ne 21, 3) := by decide +kernel
theorem dL_act_1317 : decode cL_act 1317 = .ok (.aload_n 0, 1) := by decide +kernel
theorem dL_act_1318 : decode cL_act 1318 = .ok (.bipush 14, 2) := by decide +kernel
theorem dL_act_1320 : decode cL_act 1320 = .ok (.iload 8, 2) := by decide +kernel
theorem dL_act_1322 : decode cL_act 1322 = .ok (.iadd, 1) := by decide +kernel
theorem dL_act_1323 : decode cL_act 1323 = .ok (.invokevirtual 14, 3) := by decide +kernel
theorem dL_act_1326 : decode cL_act 1326 = .ok (.iload 10, 2) := by decide +kernel
theorem dL_act_1328 : decode cL_act 1328 = .ok (.if_icmp .ne 7, 3) := by decide +kernel
theorem dL_act_1331 : decode cL_act 1331 = .ok (.iconst 1, 1) := by decide +kernel
theorem dL_act_1332 : decode cL_act 1332 = .ok (.goto 5, 3) := by decide +kernel
theorem dL_act_1335 : decode cL_act 1335 = .ok (.bipush (-9), 2) := by decide +kernel
theorem dL_act_1337 : decode cL_act 1337 = .ok (.ireturn, 1) := by decide +kernel
theorem dL_law_0 : decode cL_law 0 = .ok (.new 15, 3) := by decide +kernel
theorem dL_law_3 : decode cL_law 3 = .ok (.dup, 1) := by decide +kernel
theorem dL_law_4 : decode cL_law 4 = .ok (.invokespecial 105, 3) := by decide +kernel
theorem dL_law_7 : decode cL_law 7 = .ok (.astore_n 1, 1) := by decide +kernel
theorem dL_law_8 : decode cL_law 8 = .ok (.aload_n 1, 1) := by decide +kernel
theorem dL_law_9 : decode cL_law 9 = .ok (.invokevirtual 106, 3) := by decide +kernel
theorem dL_law_12 : decode cL_law 12 = .ok (.bipush (-5), 2) := by decide +kernel
theorem dL_law_14 : decode cL_law 14 = .ok (.if_icmp .ne 106, 3) := by decide +kernel
theorem dL_law_17 : decode cL_law 17 = .ok (.aload_n 1, 1) := by decide +kernel
theorem dL_law_18 : decode cL_law 18 = .ok (.iconst 0, 1) := by decide +kernel
theorem dL_law_19 : decode cL_law 19 = .ok (.invokevirtual 81, 3) := by decide +kernel
theorem dL_law_22 : decode cL_law 22 = .ok (.bipush (-5), 2) := by decide +kernel
theorem dL_law_24 : decode cL_law 24 = .ok (.if_icmp .ne 96, 3) := by decide +kernel
theorem dL_law_27 : decode cL_law 27 = .ok (.aload_n 1, 1) := by decide +kernel
theorem dL_law_28 : decode cL_law 28 = .ok (.iconst 1, 1) := by decide +kernel
theorem dL_law_29 : decode cL_law 29 = .ok (.invokevirtual 81, 3) := by decide +kernel
theorem dL_law_32 : decode cL_law 32 = .ok (.bipush (-5), 2) := by decide +kernel
theorem dL_law_34 : decode cL_law 34 = .ok (.if_icmp .ne 86, 3) := by decide +kernel
theorem dL_law_37 : decode cL_law 37 = .ok (.aload_n 1, 1) := by decide +kernel
theorem dL_law_38 : decode cL_law 38 = .ok (.bipush 14, 2) := by decide +kernel
theorem dL_law_40 : decode cL_law 40 = .ok (.invokevirtual 14, 3) := by decide +kernel
theorem dL_law_43 : decode cL_law 43 = .ok (.sipush 366, 3) := by decide +kernel
theorem dL_law_46 : decode cL_law 46 = .ok (.if_icmp .ne 74, 3) := by decide +kernel
theorem dL_law_49 : decode cL_law 49 = .ok (.aload_n 1, 1) := by decide +kernel
theorem dL_law_50 : decode cL_law 50 = .ok (.bipush 15, 2) := by decide +kernel
theorem dL_law_52 : decode cL_law 52 = .ok (.invokevirtual 14, 3) := by decide +kernel
theorem dL_law_55 : decode cL_law 55 = .ok (.bipush 60, 2) := by decide +kernel
theorem dL_law_57 : decode cL_law 57 = .ok (.if_icmp .ne 63, 3) := by decide +kernel
theorem dL_law_60 : decode cL_law 60 = .ok (.aload_n 1, 1) := by decide +kernel
theorem dL_law_61 : decode cL_law 61 = .ok (.bipush 16, 2) := by decide +kernel
theorem dL_law_63 : decode cL_law 63 = .ok (.invokevirtual 14, 3) := by decide +kernel
theorem dL_law_66 : decode cL_law 66 = .ok (.bipush 90, 2) := by decide +kernel
theorem dL_law_68 : decode cL_law 68 = .ok (.if_icmp .ne 52, 3) := by decide +kernel
theorem dL_law_71 : decode cL_law 71 = .ok (.aload_n 1, 1) := by decide +kernel
theorem dL_law_72 : decode cL_law 72 = .ok (.bipush 17, 2) := by decide +kernel
theorem dL_law_74 : decode cL_law 74 = .ok (.invokevirtual 14, 3) := by decide +kernel
theorem dL_law_77 : decode cL_law 77 = .ok (.bipush 30, 2) := by decide +kernel
theorem dL_law_79 : decode cL_law 79 = .ok (.if_icmp .ne 41, 3) := by decide +kernel
theorem dL_law_82 : decode cL_law 82 = .ok (.aload_n 1, 1) := by decide +kernel
theorem dL_law_83 : decode cL_law 83 = .ok (.bipush 18, 2) := by decide +kernel
theorem dL_law_85 : decode cL_law 85 = .ok (.invokevirtual 14, 3) := by decide +kernel
theorem dL_law_88 : decode cL_law 88 = .ok (.iconst 5, 1) := by decide +kernel
theorem dL_law_89 : decode cL_law 89 = .ok (.if_icmp .ne 31, 3) := by decide +kernel
theorem dL_law_92 : decode cL_law 92 = .ok (.aload_n 1, 1) := by decide +kernel
theorem dL_law_93 : decode cL_law 93 = .ok (.iconst 0, 1) := by decide +kernel
theorem dL_law_94 : decode cL_law 94 = .ok (.invokestatic 109, 3) := by decide +kernel
theorem dL_law_97 : decode cL_law 97 = .ok (.ifCond .eq 23, 3) := by decide +kernel
theorem dL_law_100 : decode cL_law 100 = .ok (.aload_n 1, 1) := by decide +kernel
theorem dL_law_101 : decode cL_law 101 = .ok (.iconst 1, 1) := by decide +kernel
theorem dL_law_102 : decode cL_law 102 = .ok (.invokestatic 109, 3) := by decide +kernel
theorem dL_law_105 : decode cL_law 105 = .ok (.ifCond .eq 15, 3) := by decide +kernel
theorem dL_law_108 : decode cL_law 108 = .ok (.aload_n 1, 1) := by decide +kernel
theorem dL_law_109 : decode cL_law 109 = .ok (.iconst 1, 1) := by decide +kernel
theorem dL_law_110 : decode cL_law 110 = .ok (.invokevirtual 78, 3) := by decide +kernel
theorem dL_law_113 : decode cL_law 113 = .ok (.ifCond .ne 7, 3) := by decide +kernel
theorem dL_law_116 : decode cL_law 116 = .ok (.iconst 1, 1) := by decide +kernel
theorem dL_law_117 : decode cL_law 117 = .ok (.goto 4, 3) := by decide +kernel
theorem dL_law_120 : decode cL_law 120 = .ok (.iconst 0, 1) := by decide +kernel
theorem dL_law_121 : decode cL_law 121 = .ok (.istore_n 2, 1) := by decide +kernel
theorem dL_law_122 : decode cL_law 122 = .ok (.iconst 0, 1) := by decide +kernel
theorem dL_law_123 : decode cL_law 123 = .ok (.istore_n 3, 1) := by decide +kernel
theorem dL_law_124 : decode cL_law 124 = .ok (.iload_n 3, 1) := by decide +kernel
theorem dL_law_125 : decode cL_law 125 = .ok (.bipush 70, 2) := by decide +kernel
theorem dL_law_127 : decode cL_law 127 = .ok (.if_icmp .ge 249, 3) := by decide +kernel
theorem dL_law_130 : decode cL_law 130 = .ok (.iload_n 2, 1) := by decide +kernel
theorem dL_law_131 : decode cL_law 131 = .ok (.ifCond .eq 245, 3) := by decide +kernel
theorem dL_law_134 : decode cL_law 134 = .ok (.aload_n 0, 1) := by decide +kernel
theorem dL_law_135 : decode cL_law 135 = .ok (.iload_n 3, 1) := by decide +kernel
theorem dL_law_136 : decode cL_law 136 = .ok (.invokestatic 112, 3) := by decide +kernel
theorem dL_law_139 : decode cL_law 139 = .ok (.istore 4, 2) := by decide +kernel
theorem dL_law_141 : decode cL_law 141 = .ok (.aload_n 1, 1) := by decide +kernel
theorem dL_law_142 : decode cL_law 142 = .ok (.invokestatic 94, 3) := by decide +kernel
theorem dL_law_145 : decode cL_law 145 = .ok (.lstore 5, 2) := by decide +kernel
theorem dL_law_147 : decode cL_law 147 = .ok (.aload_n 1, 1) := by decide +kernel
theorem dL_law_148 : decode cL_law 148 = .ok (.bipush 20, 2) := by decide +kernel
theorem dL_law_150 : decode cL_law 150 = .ok (.invokevirtual 14, 3) := by decide +kernel
theorem dL_law_153 : decode cL_law 153 = .ok (.istore 7, 2) := by decide +kernel
theorem dL_law_155 : decode cL_law 155 = .ok (.aload_n 1, 1) := by decide +kernel
theorem dL_law_156 : decode cL_law 156 = .ok (.iload 4, 2) := by decide +kernel
theorem dL_law_158 : decode cL_law 158 = .ok (.invokestatic 116, 3) := by decide +kernel
theorem dL_law_161 : decode cL_law 161 = .ok (.istore 8, 2) := by decide +kernel
theorem dL_law_163 : decode cL_law 163 = .ok (.aload_n 1, 1) := by decide +kernel
theorem dL_law_164 : decode cL_law 164 = .ok (.bipush 20, 2) := by decide +kernel
theorem dL_law_166 : decode cL_law 166 = .ok (.invokevirtual 14, 3) := by decide +kernel
theorem dL_law_169 : decode cL_law 169 = .ok (.istore 9, 2) := by decide +kernel
theorem dL_law_171 : decode cL_law 171 = .ok (.iload 8, 2) := by decide +kernel
theorem dL_law_173 : decode cL_law 173 = .ok (.ifCond .lt 101, 3) := by decide +kernel
theorem dL_law_176 : decode cL_law 176 = .ok (.iload 8, 2) := by decide +kernel
theorem dL_law_178 : decode cL_law 178 = .ok (.ifCond .ne 23, 3) := by decide +kernel
theorem dL_law_181 : decode cL_law 181 = .ok (.iload 9, 2) := by decide +kernel
theorem dL_law_183 : decode cL_law 183 = .ok (.iload 7, 2) := by decide +kernel
theorem dL_law_185 : decode cL_law 185 = .ok (.if_icmp .ne 89, 3) := by decide +kernel
theorem dL_law_188 : decode cL_law 188 = .ok (.aload_n 1, 1) := by decide +kernel
theorem dL_law_189 : decode cL_law 189 = .ok (.invokestatic 94, 3) := by decide +kernel
theorem dL_law_192 : decode cL_law 192 = .ok (.lload 5, 2) := by decide +kernel
theorem dL_law_194 : decode cL_law 194 = .ok (.lcmp, 1) := by decide +kernel
theorem dL_law_195 : decode cL_law 195 = .ok (.ifCond .ne 79, 3) := by decide +kernel
theorem dL_law_198 : decode cL_law 198 = .ok (.goto 24, 3) := by decide +kernel
theorem dL_law_201 : decode cL_law 201 = .ok (.iload 9, 2) := by decide +kernel
theorem dL_law_203 : decode cL_law 203 = .ok (.iload 7, 2) := by decide +kernel
theorem dL_law_205 : decode cL_law 205 = .ok (.bipush 6, 2) := by decide +kernel
theorem dL_law_207 : decode cL_law 207 = .ok (.if_icmp .ge 10, 3) := by decide +kernel
theorem dL_law_210 : decode cL_law 210 = .ok (.iload 7, 2) := by decide +kernel
theorem dL_law_212 : decode cL_law 212 = .ok (.iconst 1, 1) := by decide +kernel
theorem dL_law_213 : decode cL_law 213 = .ok (.iadd, 1) := by decide +kernel
theorem dL_law_214 : decode cL_law 214 = .ok (.goto 5, 3) := by decide +kernel
theorem dL_law_217 : decode cL_law 217 = .ok (.bipush 6, 2) := by decide +kernel
theorem dL_law_219 : decode cL_law 219 = .ok (.if_icmp .ne 55, 3) := by decide +kernel
theorem dL_law_222 : decode cL_law 222 = .ok (.iload_n 3, 1) := by decide +kernel
theorem dL_law_223 : decode cL_law 223 = .ok (.iconst 3, 1) := by decide +kernel
theorem dL_law_224 : decode cL_law 224 = .ok (.irem, 1) := by decide +kernel
theorem dL_law_225 : decode cL_law 225 = .ok (.ifCond .eq 10, 3) := by decide +kernel
theorem dL_law_228 : decode cL_law 228 = .ok (.aload_n 1, 1) := by decide +kernel
theorem dL_law_229 : decode cL_law 229 = .ok (.invokestatic 120, 3) := by decide +kernel
theorem dL_law_232 : decode cL_law 232 = .ok (.ifCond .eq 42, 3) := by decide +kernel
theorem dL_law_235 : decode cL_law 235 = .ok (.iload_n 3, 1) := by decide +kernel
theorem dL_law_236 : decode cL_law 236 = .ok (.iconst 4, 1) := by decide +kernel
theorem dL_law_237 : decode cL_law 237 = .ok (.irem, 1) := by decide +kernel
theorem dL_law_238 : decode cL_law 238 = .ok (.iconst 3, 1) := by decide +kernel
theorem dL_law_239 : decode cL_law 239 = .ok (.if_icmp .ne 10, 3) := by decide +kernel
theorem dL_law_242 : decode cL_law 242 = .ok (.aload_n 1, 1) := by decide +kernel
theorem dL_law_243 : decode cL_law 243 = .ok (.invokestatic 124, 3) := by decide +kernel
theorem dL_law_246 : decode cL_law 246 = .ok (.ifCond .eq 28, 3) := by decide +kernel
theorem dL_law_249 : decode cL_law 249 = .ok (.iload_n 3, 1) := by decide +kernel
theorem dL_law_250 : decode cL_law 250 = .ok (.bipush 7, 2) := by decide +kernel
theorem dL_law_252 : decode cL_law 252 = .ok (.irem, 1) := by decide +kernel
theorem dL_law_253 : decode cL_law 253 = .ok (.bipush 6, 2) := by decide +kernel
theorem dL_law_255 : decode cL_law 255 = .ok (.if_icmp .ne 15, 3) := by decide +kernel
theorem dL_law_258 : decode cL_law 258 = .ok (.aload_n 1, 1) := by decide +kernel
theorem dL_law_259 : decode cL_law 259 = .ok (.iload 4, 2) := by decide +kernel
theorem dL_law_261 : decode cL_law 261 = .ok (.bipush 7, 2) := by decide +kernel
theorem dL_law_263 : decode cL_law 263 = .ok (.idiv, 1) := by decide +kernel
theorem dL_law_264 : decode cL_law 264 = .ok (.invokestatic 109, 3) := by decide +kernel
theorem dL_law_267 : decode cL_law 267 = .ok (.ifCond .eq 7, 3) := by decide +kernel
theorem dL_law_270 : decode cL_law 270 = .ok (.iconst 1, 1) := by decide +kernel
theorem dL_law_271 : decode cL_law 271 = .ok (.goto 4, 3) := by decide +kernel
theorem dL_law_274 : decode cL_law 274 = .ok (.iconst 0, 1) := by decide +kernel
theorem dL_law_275 : decode cL_law 275 = .ok (.istore_n 2, 1) := by decide +kernel
theorem dL_law_276 : decode cL_law 276 = .ok (.iload_n 2, 1) := by decide +kernel
theorem dL_law_277 : decode cL_law 277 = .ok (.ifCond .eq 93, 3) := by decide +kernel
theorem dL_law_280 : decode cL_law 280 = .ok (.iload 8, 2) := by decide +kernel
theorem dL_law_282 : decode cL_law 282 = .ok (.iconst 1, 1) := by decide +kernel
theorem dL_law_283 : decode cL_law 283 = .ok (.if_icmp .ne 87, 3) := by decide +kernel
theorem dL_law_286 : decode cL_law 286 = .ok (.iload 4, 2) := by decide +kernel
theorem dL_law_288 : decode cL_law 288 = .ok (.bipush 17, 2) := by decide +kernel
theorem dL_law_290 : decode cL_law 290 = .ok (.idiv, 1) := by decide +kernel
theorem dL_law_291 : decode cL_law 291 = .ok (.iconst 4, 1) := by decide +kernel
theorem dL_law_292 : decode cL_law 292 = .ok (.irem, 1) := by decide +kernel
theorem dL_law_293 : decode cL_law 293 = .ok (.ifCond .ne 77, 3) := by decide +kernel
theorem dL_law_296 : decode cL_law 296 = .ok (.aload_n 1, 1) := by decide +kernel
theorem dL_law_297 : decode cL_law 297 = .ok (.invokestatic 94, 3) := by decide +kernel
theorem dL_law_300 : decode cL_law 300 = .ok (.lstore 10, 2) := by decide +kernel
theorem dL_law_302 : decode cL_law 302 = .ok (.aload_n 1, 1) := by decide +kernel
theorem dL_law_303 : decode cL_law 303 = .ok (.iconst 0, 1) := by decide +kernel
theorem dL_law_304 : decode cL_law 304 = .ok (.invokevirtual 78, 3) := by decide +kernel
theorem dL_law_307 : decode cL_law 307 = .ok (.istore 12, 2) := by decide +kernel
theorem dL_law_309 : decode cL_law 309 = .ok (.iload 12, 2) := by decide +kernel
theorem dL_law_311 : decode cL_law 311 = .ok (.ifCond .lt 57, 3) := by decide +kernel
theorem dL_law_314 : decode cL_law 314 = .ok (.aload_n 1, 1) := by decide +kernel
theorem dL_law_315 : decode cL_law 315 = .ok (.invokevirtual 106, 3) := by decide +kernel
theorem dL_law_318 : decode cL_law 318 = .ok (.iload 7, 2) := by decide +kernel
theorem dL_law_320 : decode cL_law 320 = .ok (.bipush 6, 2) := by decide +kernel
theorem dL_law_322 : decode cL_law 322 = .ok (.if_icmp .ge 8, 3) := by decide +kernel
theorem dL_law_325 : decode cL_law 325 = .ok (.iload 7, 2) := by decide +kernel
theorem dL_law_327 : decode cL_law 327 = .ok (.goto 4, 3) := by decide +kernel
theorem dL_law_330 : decode cL_law 330 = .ok (.iconst 5, 1) := by decide +kernel
theorem dL_law_331 : decode cL_law 331 = .ok (.if_icmp .ne 37, 3) := by decide +kernel
theorem dL_law_334 : decode cL_law 334 = .ok (.aload_n 1, 1) := by decide +kernel
theorem dL_law_335 : decode cL_law 335 = .ok (.invokestatic 94, 3) := by decide +kernel
theorem dL_law_338 : decode cL_law 338 = .ok (.lload 5, 2) := by decide +kernel
theorem dL_law_340 : decode cL_law 340 = .ok (.lcmp, 1) := by decide +kernel
theorem dL_law_341 : decode cL_law 341 = .ok (.ifCond .ne 27, 3) := by decide +kernel
theorem dL_law_344 : decode cL_law 344 = .ok (.aload_n 1, 1) := by decide +kernel
theorem dL_law_345 : decode cL_law 345 = .ok (.iconst 0, 1) := by decide +kernel
theorem dL_law_346 : decode cL_law 346 = .ok (.invokevirtual 81, 3) := by decide +kernel
theorem dL_law_349 : decode cL_law 349 = .ok (.iload 12, 2) := by decide +kernel
theorem dL_law_351 : decode cL_law 351 = .ok (.if_icmp .ne 17, 3) := by decide +kernel
theorem dL_law_354 : decode cL_law 354 = .ok (.aload_n 1, 1) := by decide +kernel
theorem dL_law_355 : decode cL_law 355 = .ok (.invokestatic 94, 3) := by decide +kernel
theorem dL_law_358 : decode cL_law 358 = .ok (.lload 10, 2) := by decide +kernel
theorem dL_law_360 : decode cL_law 360 = .ok (.lcmp, 1) := by decide +kernel
theorem dL_law_361 : decode cL_law 361 = .ok (.ifCond .ne 7, 3) := by decide +kernel
theorem dL_law_364 : decode cL_law 364 = .ok (.iconst 1, 1) := by decide +kernel
theorem dL_law_365 : decode cL_law 365 = .ok (.goto 4, 3) := by decide +kernel
theorem dL_law_368 : decode cL_law 368 = .ok (.iconst 0, 1) := by decide +kernel
theorem dL_law_369 : decode cL_law 369 = .ok (.istore_n 2, 1) := by decide +kernel
theorem dL_law_370 : decode cL_law 370 = .ok (.iinc 3 1, 3) := by decide +kernel
theorem dL_law_373 : decode cL_law 373 = .ok (.goto (-249), 3) := by decide +kernel
theorem dL_law_376 : decode cL_law 376 = .ok (.iload_n 2, 1) := by decide +kernel
theorem dL_law_377 : decode cL_law 377 = .ok (.ifCond .eq 37, 3) := by decide +kernel
theorem dL_law_380 : decode cL_law 380 = .ok (.aload_n 1, 1) := by decide +kernel
theorem dL_law_381 : decode cL_law 381 = .ok (.iconst 1, 1) := by decide +kernel
theorem dL_law_382 : decode cL_law 382 = .ok (.invokevirtual 81, 3) := by decide +kernel
theorem dL_law_385 : decode cL_law 385 = .ok (.ifCond .ne 29, 3) := by decide +kernel
theorem dL_law_388 : decode cL_law 388 = .ok (.aload_n 1, 1) := by decide +kernel
theorem dL_law_389 : decode cL_law 389 = .ok (.iconst 2, 1) := by decide +kernel
theorem dL_law_390 : decode cL_law 390 = .ok (.invokevirtual 14, 3) := by decide +kernel
theorem dL_law_393 : decode cL_law 393 = .ok (.ifCond .ne 21, 3) := by decide +kernel
theorem dL_law_396 : decode cL_law 396 = .ok (.aload_n 1, 1) := by decide +kernel
theorem dL_law_397 : decode cL_law 397 = .ok (.invokevirtual 106, 3) := by decide +kernel
theorem dL_law_400 : decode cL_law 400 = .ok (.ifCond .lt 14, 3) := by decide +kernel
theorem dL_law_403 : decode cL_law 403 = .ok (.aload_n 1, 1) := by decide +kernel
theorem dL_law_404 : decode cL_law 404 = .ok (.invokestatic 124, 3) := by decide +kernel
theorem dL_law_407 : decode cL_law 407 = .ok (.ifCond .eq 7, 3) := by decide +kernel
theorem dL_law_410 : decode cL_law 410 = .ok (.iconst 1, 1) := by decide +kernel
theorem dL_law_411 : decode cL_law 411 = .ok (.goto 4, 3) := by decide +kernel
theorem dL_law_414 : decode cL_law 414 = .ok (.iconst 0, 1) := by decide +kernel
theorem dL_law_415 : decode cL_law 415 = .ok (.ireturn, 1) := by decide +kernel
