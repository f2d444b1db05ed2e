theorem dX7_ways_10 : decode cX7_ways 10 = .ok (.iconst 5, 1) := by decide +kernel
theorem dX7_ways_11 : decode cX7_ways 11 = .ok (.invokestatic 50, 3) := by decide +kernel
theorem dX7_ways_14 : decode cX7_ways 14 = .ok (.ifCond .ne 6, 3) := by decide +kernel
theorem dX7_ways_17 : decode cX7_ways 17 = .ok (.ldc 54, 2) := by decide +kernel
theorem dX7_ways_19 : decode cX7_ways 19 = .ok (.ireturn, 1) := by decide +kernel
theorem dX7_ways_20 : decode cX7_ways 20 = .ok (.aload_n 0, 1) := by decide +kernel
theorem dX7_ways_21 : decode cX7_ways 21 = .ok (.iload_n 1, 1) := by decide +kernel
theorem dX7_ways_22 : decode cX7_ways 22 = .ok (.invokevirtual 143, 3) := by decide +kernel
theorem dX7_ways_25 : decode cX7_ways 25 = .ok (.istore_n 3, 1) := by decide +kernel
theorem dX7_ways_26 : decode cX7_ways 26 = .ok (.iconst 0, 1) := by decide +kernel
theorem dX7_ways_27 : decode cX7_ways 27 = .ok (.istore 4, 2) := by decide +kernel
theorem dX7_ways_29 : decode cX7_ways 29 = .ok (.iload 4, 2) := by decide +kernel
theorem dX7_ways_31 : decode cX7_ways 31 = .ok (.aload_n 0, 1) := by decide +kernel
theorem dX7_ways_32 : decode cX7_ways 32 = .ok (.invokevirtual 136, 3) := by decide +kernel
theorem dX7_ways_35 : decode cX7_ways 35 = .ok (.if_icmp .ge 26, 3) := by decide +kernel
theorem dX7_ways_38 : decode cX7_ways 38 = .ok (.aload_n 0, 1) := by decide +kernel
theorem dX7_ways_39 : decode cX7_ways 39 = .ok (.getfield 35, 3) := by decide +kernel
theorem dX7_ways_42 : decode cX7_ways 42 = .ok (.iload 4, 2) := by decide +kernel
theorem dX7_ways_44 : decode cX7_ways 44 = .ok (.iload 4, 2) := by decide +kernel
theorem dX7_ways_46 : decode cX7_ways 46 = .ok (.ifCond .ne 7, 3) := by decide +kernel
theorem dX7_ways_49 : decode cX7_ways 49 = .ok (.iconst 1, 1) := by decide +kernel
theorem dX7_ways_50 : decode cX7_ways 50 = .ok (.goto 4, 3) := by decide +kernel
theorem dX7_ways_53 : decode cX7_ways 53 = .ok (.iconst 0, 1) := by decide +kernel
theorem dX7_ways_54 : decode cX7_ways 54 = .ok (.iastore, 1) := by decide +kernel
theorem dX7_ways_55 : decode cX7_ways 55 = .ok (.iinc 4 1, 3) := by decide +kernel
theorem dX7_ways_58 : decode cX7_ways 58 = .ok (.goto (-29), 3) := by decide +kernel
theorem dX7_ways_61 : decode cX7_ways 61 = .ok (.iconst 0, 1) := by decide +kernel
theorem dX7_ways_62 : decode cX7_ways 62 = .ok (.istore 4, 2) := by decide +kernel
theorem dX7_ways_64 : decode cX7_ways 64 = .ok (.iload 4, 2) := by decide +kernel
theorem dX7_ways_66 : decode cX7_ways 66 = .ok (.iload_n 2, 1) := by decide +kernel
theorem dX7_ways_67 : decode cX7_ways 67 = .ok (.if_icmp .ge 133, 3) := by decide +kernel
theorem dX7_ways_70 : decode cX7_ways 70 = .ok (.iconst 0, 1) := by decide +kernel
theorem dX7_ways_71 : decode cX7_ways 71 = .ok (.istore 5, 2) := by decide +kernel
theorem dX7_ways_73 : decode cX7_ways 73 = .ok (.iload 5, 2) := by decide +kernel
theorem dX7_ways_75 : decode cX7_ways 75 = .ok (.aload_n 0, 1) := by decide +kernel
theorem dX7_ways_76 : decode cX7_ways 76 = .ok (.invokevirtual 136, 3) := by decide +kernel
theorem dX7_ways_79 : decode cX7_ways 79 = .ok (.if_icmp .ge 83, 3) := by decide +kernel
theorem dX7_ways_82 : decode cX7_ways 82 = .ok (.aload_n 0, 1) := by decide +kernel
theorem dX7_ways_83 : decode cX7_ways 83 = .ok (.getfield 38, 3) := by decide +kernel
theorem dX7_ways_86 : decode cX7_ways 86 = .ok (.iload 5, 2) := by decide +kernel
theorem dX7_ways_88 : decode cX7_ways 88 = .ok (.iconst 0, 1) := by decide +kernel
theorem dX7_ways_89 : decode cX7_ways 89 = .ok (.iastore, 1) := by decide +kernel
theorem dX7_ways_90 : decode cX7_ways 90 = .ok (.iconst 0, 1) := by decide +kernel
theorem dX7_ways_91 : decode cX7_ways 91 = .ok (.istore 6, 2) := by decide +kernel
theorem dX7_ways_93 : decode cX7_ways 93 = .ok (.iload 6, 2) := by decide +kernel
theorem dX7_ways_95 : decode cX7_ways 95 = .ok (.aload_n 0, 1) := by decide +kernel
theorem dX7_ways_96 : decode cX7_ways 96 = .ok (.getfield 59, 3) := by decide +kernel
theorem dX7_ways_99 : decode cX7_ways 99 = .ok (.if_icmp .ge 57, 3) := by decide +kernel
theorem dX7_ways_102 : decode cX7_ways 102 = .ok (.aload_n 0, 1) := by decide +kernel
theorem dX7_ways_103 : decode cX7_ways 103 = .ok (.getfield 38, 3) := by decide +kernel
theorem dX7_ways_106 : decode cX7_ways 106 = .ok (.iload 5, 2) := by decide +kernel
theorem dX7_ways_108 : decode cX7_ways 108 = .ok (.dup2, 1) := by decide +kernel
theorem dX7_ways_109 : decode cX7_ways 109 = .ok (.iaload, 1) := by decide +kernel
theorem dX7_ways_110 : decode cX7_ways 110 = .ok (.aload_n 0, 1) := by decide +kernel
theorem dX7_ways_111 : decode cX7_ways 111 = .ok (.getfield 32, 3) := by decide +kernel
theorem dX7_ways_114 : decode cX7_ways 114 = .ok (.bipush 6, 2) := by decide +kernel
theorem dX7_ways_116 : decode cX7_ways 116 = .ok (.iload 5, 2) := by decide +kernel
theorem dX7_ways_118 : decode cX7_ways 118 = .ok (.imul, 1) := by decide +kernel
theorem dX7_ways_119 : decode cX7_ways 119 = .ok (.iload 6, 2) := by decide +kernel
theorem dX7_ways_121 : decode cX7_ways 121 = .ok (.iadd, 1) := by decide +kernel
theorem dX7_ways_122 : decode cX7_ways 122 = .ok (.iaload, 1) := by decide +kernel
theorem dX7_ways_123 : decode cX7_ways 123 = .ok (.ifCond .ge 7, 3) := by decide +kernel
theorem dX7_ways_126 : decode cX7_ways 126 = .ok (.iconst 0, 1) := by decide +kernel
theorem dX7_ways_127 : decode cX7_ways 127 = .ok (.goto 21, 3) := by decide +kernel
theorem dX7_ways_130 : decode cX7_ways 130 = .ok (.aload_n 0, 1) := by decide +kernel
theorem dX7_ways_131 : decode cX7_ways 131 = .ok (.getfield 35, 3) := by decide +kernel
theorem dX7_ways_134 : decode cX7_ways 134 = .ok (.aload_n 0, 1) := by decide +kernel
theorem dX7_ways_135 : decode cX7_ways 135 = .ok (.getfield 32, 3) := by decide +kernel
theorem dX7_ways_138 : decode cX7_ways 138 = .ok (.bipush 6, 2) := by decide +kernel
theorem dX7_ways_140 : decode cX7_ways 140 = .ok (.iload 5, 2) := by decide +kernel
theorem dX7_ways_142 : decode cX7_ways 142 = .ok (.imul, 1) := by decide +kernel
theorem dX7_ways_143 : decode cX7_ways 143 = .ok (.iload 6, 2) := by decide +kernel
theorem dX7_ways_145 : decode cX7_ways 145 = .ok (.iadd, 1) := by decide +kernel
theorem dX7_ways_146 : decode cX7_ways 146 = .ok (.iaload, 1) := by decide +kernel
theorem dX7_ways_147 : decode cX7_ways 147 = .ok (.iaload, 1) := by decide +kernel
theorem dX7_ways_148 : decode cX7_ways 148 = .ok (.iadd, 1) := by decide +kernel
theorem dX7_ways_149 : decode cX7_ways 149 = .ok (.iastore, 1) := by decide +kernel
theorem dX7_ways_150 : decode cX7_ways 150 = .ok (.iinc 6 1, 3) := by decide +kernel
theorem dX7_ways_153 : decode cX7_ways 153 = .ok (.goto (-60), 3) := by decide +kernel
theorem dX7_ways_156 : decode cX7_ways 156 = .ok (.iinc 5 1, 3) := by decide +kernel
theorem dX7_ways_159 : decode cX7_ways 159 = .ok (.goto (-86), 3) := by decide +kernel
theorem dX7_ways_162 : decode cX7_ways 162 = .ok (.iconst 0, 1) := by decide +kernel
theorem dX7_ways_163 : decode cX7_ways 163 = .ok (.istore 5, 2) := by decide +kernel
theorem dX7_ways_165 : decode cX7_ways 165 = .ok (.iload 5, 2) := by decide +kernel
theorem dX7_ways_167 : decode cX7_ways 167 = .ok (.aload_n 0, 1) := by decide +kernel
theorem dX7_ways_168 : decode cX7_ways 168 = .ok (.invokevirtual 136, 3) := by decide +kernel
theorem dX7_ways_171 : decode cX7_ways 171 = .ok (.if_icmp .ge 23, 3) := by decide +kernel
theorem dX7_ways_174 : decode cX7_ways 174 = .ok (.aload_n 0, 1) := by decide +kernel
theorem dX7_ways_175 : decode cX7_ways 175 = .ok (.getfield 35, 3) := by decide +kernel
theorem dX7_ways_178 : decode cX7_ways 178 = .ok (.iload 5, 2) := by decide +kernel
theorem dX7_ways_180 : decode cX7_ways 180 = .ok (.aload_n 0, 1) := by decide +kernel
theorem dX7_ways_181 : decode cX7_ways 181 = .ok (.getfield 38, 3) := by decide +kernel
theorem dX7_ways_184 : decode cX7_ways 184 = .ok (.iload 5, 2) := by decide +kernel
theorem dX7_ways_186 : decode cX7_ways 186 = .ok (.iaload, 1) := by decide +kernel
theorem dX7_ways_187 : decode cX7_ways 187 = .ok (.iastore, 1) := by decide +kernel
theorem dX7_ways_188 : decode cX7_ways 188 = .ok (.iinc 5 1, 3) := by decide +kernel
theorem dX7_ways_191 : decode cX7_ways 191 = .ok (.goto (-26), 3) := by decide +kernel
theorem dX7_ways_194 : decode cX7_ways 194 = .ok (.iinc 4 1, 3) := by decide +kernel
theorem dX7_ways_197 : decode cX7_ways 197 = .ok (.goto (-133), 3) := by decide +kernel
theorem dX7_ways_200 : decode cX7_ways 200 = .ok (.aload_n 0, 1) := by decide +kernel
theorem dX7_ways_201 : decode cX7_ways 201 = .ok (.getfield 35, 3) := by decide +kernel
theorem dX7_ways_204 : decode cX7_ways 204 = .ok (.iload_n 3, 1) := by decide +kernel
theorem dX7_ways_205 : decode cX7_ways 205 = .ok (.iaload, 1) := by decide +kernel
theorem dX7_ways_206 : decode cX7_ways 206 = .ok (.ireturn, 1) := by decide +kernel
theorem dX7_gapsOf_0 : decode cX7_gapsOf 0 = .ok (.aload_n 0, 1) := by decide +kernel
theorem dX7_gapsOf_1 : decode cX7_gapsOf 1 = .ok (.iload_n 1, 1) := by decide +kernel
theorem dX7_gapsOf_2 : decode cX7_gapsOf 2 = .ok (.invokevirtual 139, 3) := by decide +kernel
theorem dX7_gapsOf_5 : decode cX7_gapsOf 5 = .ok (.aload_n 0, 1) := by decide +kernel
theorem dX7_gapsOf_6 : decode cX7_gapsOf 6 = .ok (.invokevirtual 109, 3) := by decide +kernel
theorem dX7_gapsOf_9 : decode cX7_gapsOf 9 = .ok (.ireturn, 1) := by decide +kernel
theorem dX7_lookedAt_0 : decode cX7_lookedAt 0 = .ok (.aload_n 0, 1) := by decide +kernel
theorem dX7_lookedAt_1 : decode cX7_lookedAt 1 = .ok (.iload_n 1, 1) := by decide +kernel
theorem dX7_lookedAt_2 : decode cX7_lookedAt 2 = .ok (.invokevirtual 98, 3) := by decide +kernel
theorem dX7_lookedAt_5 : decode cX7_lookedAt 5 = .ok (.ifCond .eq 13, 3) := by decide +kernel
theorem dX7_lookedAt_8 : decode cX7_lookedAt 8 = .ok (.iload_n 2, 1) := by decide +kernel
theorem dX7_lookedAt_9 : decode cX7_lookedAt 9 = .ok (.iconst 0, 1) := by decide +kernel
theorem dX7_lookedAt_10 : decode cX7_lookedAt 10 = .ok (.bipush 6, 2) := by decide +kernel
theorem dX7_lookedAt_12 : decode cX7_lookedAt 12 = .ok (.invokestatic 50, 3) := by decide +kernel
theorem dX7_lookedAt_15 : decode cX7_lookedAt 15 = .ok (.ifCond .ne 6, 3) := by decide +kernel
theorem dX7_lookedAt_18 : decode cX7_lookedAt 18 = .ok (.ldc 54, 2) := by decide +kernel
theorem dX7_lookedAt_20 : decode cX7_lookedAt 20 = .ok (.ireturn, 1) := by decide +kernel
theorem dX7_lookedAt_21 : decode cX7_lookedAt 21 = .ok (.aload_n 0, 1) := by decide +kernel
theorem dX7_lookedAt_22 : decode cX7_lookedAt 22 = .ok (.getfield 44, 3) := by decide +kernel
theorem dX7_lookedAt_25 : decode cX7_lookedAt 25 = .ok (.iconst 0, 1) := by decide +kernel
theorem dX7_lookedAt_26 : decode cX7_lookedAt 26 = .ok (.aload_n 0, 1) := by decide +kernel
theorem dX7_lookedAt_27 : decode cX7_lookedAt 27 = .ok (.iload_n 1, 1) := by decide +kernel
theorem dX7_lookedAt_28 : decode cX7_lookedAt 28 = .ok (.invokevirtual 143, 3) := by decide +kernel
theorem dX7_lookedAt_31 : decode cX7_lookedAt 31 = .ok (.iastore, 1) := by decide +kernel
theorem dX7_lookedAt_32 : decode cX7_lookedAt 32 = .ok (.aload_n 0, 1) := by decide +kernel
theorem dX7_lookedAt_33 : decode cX7_lookedAt 33 = .ok (.aload_n 0, 1) := by decide +kernel
theorem dX7_lookedAt_34 : decode cX7_lookedAt 34 = .ok (.getfield 44, 3) := by decide +kernel
theorem dX7_lookedAt_37 : decode cX7_lookedAt 37 = .ok (.iconst 0, 1) := by decide +kernel
theorem dX7_lookedAt_38 : decode cX7_lookedAt 38 = .ok (.iaload, 1) := by decide +kernel
theorem dX7_lookedAt_39 : decode cX7_lookedAt 39 = .ok (.invokevirtual 150, 3) := by decide +kernel
theorem dX7_lookedAt_42 : decode cX7_lookedAt 42 = .ok (.iload_n 2, 1) := by decide +kernel
theorem dX7_lookedAt_43 : decode cX7_lookedAt 43 = .ok (.if_icmp .le 5, 3) := by decide +kernel
theorem dX7_lookedAt_46 : decode cX7_lookedAt 46 = .ok (.iconst 0, 1) := by decide +kernel
theorem dX7_lookedAt_47 : decode cX7_lookedAt 47 = .ok (.ireturn, 1) := by decide +kernel
theorem dX7_lookedAt_48 : decode cX7_lookedAt 48 = .ok (.iconst 1, 1) := by decide +kernel
theorem dX7_lookedAt_49 : decode cX7_lookedAt 49 = .ok (.istore_n 3, 1) := by decide +kernel
theorem dX7_lookedAt_50 : decode cX7_lookedAt 50 = .ok (.aload_n 0, 1) := by decide +kernel
theorem dX7_lookedAt_51 : decode cX7_lookedAt 51 = .ok (.getfield 44, 3) := by decide +kernel
theorem dX7_lookedAt_54 : decode cX7_lookedAt 54 = .ok (.iconst 0, 1) := by decide +kernel
theorem dX7_lookedAt_55 : decode cX7_lookedAt 55 = .ok (.iaload, 1) := by decide +kernel
theorem dX7_lookedAt_56 : decode cX7_lookedAt 56 = .ok (.ifCond .ne 7, 3) := by decide +kernel
theorem dX7_lookedAt_59 : decode cX7_lookedAt 59 = .ok (.iconst (-1), 1) := by decide +kernel
theorem dX7_lookedAt_60 : decode cX7_lookedAt 60 = .ok (.goto 4, 3) := by decide +kernel
theorem dX7_lookedAt_63 : decode cX7_lookedAt 63 = .ok (.iconst 0, 1) := by decide +kernel
theorem dX7_lookedAt_64 : decode cX7_lookedAt 64 = .ok (.istore 4, 2) := by decide +kernel
theorem dX7_lookedAt_66 : decode cX7_lookedAt 66 = .ok (.aload_n 0, 1) := by decide +kernel
theorem dX7_lookedAt_67 : decode cX7_lookedAt 67 = .ok (.getfield 47, 3) := by decide +kernel
theorem dX7_lookedAt_70 : decode cX7_lookedAt 70 = .ok (.iconst 0, 1) := by decide +kernel
theorem dX7_lookedAt_71 : decode cX7_lookedAt 71 = .ok (.iconst 0, 1) := by decide +kernel
theorem dX7_lookedAt_72 : decode cX7_lookedAt 72 = .ok (.iastore, 1) := by decide +kernel
theorem dX7_lookedAt_73 : decode cX7_lookedAt 73 = .ok (.iload 4, 2) := by decide +kernel
theorem dX7_lookedAt_75 : decode cX7_lookedAt 75 = .ok (.ifCond .lt 170, 3) := by decide +kernel
theorem dX7_lookedAt_78 : decode cX7_lookedAt 78 = .ok (.aload_n 0, 1) := by decide +kernel
theorem dX7_lookedAt_79 : decode cX7_lookedAt 79 = .ok (.getfield 47, 3) := by decide +kernel
theorem dX7_lookedAt_82 : decode cX7_lookedAt 82 = .ok (.iload 4, 2) := by decide +kernel
theorem dX7_lookedAt_84 : decode cX7_lookedAt 84 = .ok (.dup2, 1) := by decide +kernel
theorem dX7_lookedAt_85 : decode cX7_lookedAt 85 = .ok (.iaload, 1) := by decide +kernel
theorem dX7_lookedAt_86 : decode cX7_lookedAt 86 = .ok (.iconst 1, 1) := by decide +kernel
theorem dX7_lookedAt_87 : decode cX7_lookedAt 87 = .ok (.iadd, 1) := by decide +kernel
theorem dX7_lookedAt_88 : decode cX7_lookedAt 88 = .ok (.iastore, 1) := by decide +kernel
theorem dX7_lookedAt_89 : decode cX7_lookedAt 89 = .ok (.aload_n 0, 1) := by decide +kernel
theorem dX7_lookedAt_90 : decode cX7_lookedAt 90 = .ok (.getfield 47, 3) := by decide +kernel
theorem dX7_lookedAt_93 : decode cX7_lookedAt 93 = .ok (.iload 4, 2) := by decide +kernel
theorem dX7_lookedAt_95 : decode cX7_lookedAt 95 = .ok (.iaload, 1) := by decide +kernel
theorem dX7_lookedAt_96 : decode cX7_lookedAt 96 = .ok (.istore 5, 2) := by decide +kernel
theorem dX7_lookedAt_98 : decode cX7_lookedAt 98 = .ok (.iload 5, 2) := by decide +kernel
theorem dX7_lookedAt_100 : decode cX7_lookedAt 100 = .ok (.aload_n 0, 1) := by decide +kernel
theorem dX7_lookedAt_101 : decode cX7_lookedAt 101 = .ok (.getfield 59, 3) := by decide +kernel
theorem dX7_lookedAt_104 : decode cX7_lookedAt 104 = .ok (.if_icmp .gt 9, 3) := by decide +kernel
theorem dX7_lookedAt_107 : decode cX7_lookedAt 107 = .ok (.iload 4, 2) := by decide +kernel
theorem dX7_lookedAt_109 : decode cX7_lookedAt 109 = .ok (.iload_n 2, 1) := by decide +kernel
theorem dX7_lookedAt_110 : decode cX7_lookedAt 110 = .ok (.if_icmp .ne 9, 3) := by decide +kernel
theorem dX7_lookedAt_113 : decode cX7_lookedAt 113 = .ok (.iinc 4 (-1), 3) := by decide +kernel
theorem dX7_lookedAt_116 : decode cX7_lookedAt 116 = .ok (.goto 126, 3) := by decide +kernel
theorem dX7_lookedAt_119 : decode cX7_lookedAt 119 = .ok (.aload_n 0, 1) := by decide +kernel
theorem dX7_lookedAt_120 : decode cX7_lookedAt 120 = .ok (.getfield 32, 3) := by decide +kernel
theorem dX7_lookedAt_123 : decode cX7_lookedAt 123 = .ok (.bipush 6, 2) := by decide +kernel
theorem dX7_lookedAt_125 : decode cX7_lookedAt 125 = .ok (.aload_n 0, 1) := by decide +kernel
theorem dX7_lookedAt_126 : decode cX7_lookedAt 126 = .ok (.getfield 44, 3) := by decide +kernel
theorem dX7_lookedAt_129 : decode cX7_lookedAt 129 = .ok (.iload 4, 2) := by decide +kernel
theorem dX7_lookedAt_131 : decode cX7_lookedAt 131 = .ok (.iaload, 1) := by decide +kernel
theorem dX7_lookedAt_132 : decode cX7_lookedAt 132 = .ok (.imul, 1) := by decide +kernel
theorem dX7_lookedAt_133 : decode cX7_lookedAt 133 = .ok (.iload 5, 2) := by decide +kernel
theorem dX7_lookedAt_135 : decode cX7_lookedAt 135 = .ok (.iadd, 1) := by decide +kernel
theorem dX7_lookedAt_136 : decode cX7_lookedAt 136 = .ok (.iconst 1, 1) := by decide +kernel
theorem dX7_lookedAt_137 : decode cX7_lookedAt 137 = .ok (.isub, 1) := by decide +kernel
theorem dX7_lookedAt_138 : decode cX7_lookedAt 138 = .ok (.iaload, 1) := by decide +kernel
theorem dX7_lookedAt_139 : decode cX7_lookedAt 139 = .ok (.istore 6, 2) := by decide +kernel
theorem dX7_lookedAt_141 : decode cX7_lookedAt 141 = .ok (.iload 4, 2) := by decide +kernel
theorem dX7_lookedAt_143 : decode cX7_lookedAt 143 = .ok (.ifCond .le 21, 3) := by decide +kernel
theorem dX7_lookedAt_146 : decode cX7_lookedAt 146 = .ok (.aload_n 0, 1) := by decide +kernel
theorem dX7_lookedAt_147 : decode cX7_lookedAt 147 = .ok (.getfield 47, 3) := by decide +kernel
theorem dX7_lookedAt_150 : decode cX7_lookedAt 150 = .ok (.iload 4, 2) := by decide +kernel
theorem dX7_lookedAt_152 : decode cX7_lookedAt 152 = .ok (.iconst 1, 1) := by decide +kernel
theorem dX7_lookedAt_153 : decode cX7_lookedAt 153 = .ok (.isub, 1) := by decide +kernel
theorem dX7_lookedAt_154 : decode cX7_lookedAt 154 = .ok (.iaload, 1) := by decide +kernel
theorem dX7_lookedAt_155 : decode cX7_lookedAt 155 = .ok (.iload 5, 2) := by decide +kernel
theorem dX7_lookedAt_157 : decode cX7_lookedAt 157 = .ok (.if_icmp .ne 7, 3) := by decide +kernel
theorem dX7_lookedAt_160 : decode cX7_lookedAt 160 = .ok (.iconst 1, 1) := by decide +kernel
theorem dX7_lookedAt_161 : decode cX7_lookedAt 161 = .ok (.goto 4, 3) := by decide +kernel
theorem dX7_lookedAt_164 : decode cX7_lookedAt 164 = .ok (.iconst 0, 1) := by decide +kernel
theorem dX7_lookedAt_165 : decode cX7_lookedAt 165 = .ok (.istore 7, 2) := by decide +kernel
theorem dX7_lookedAt_167 : decode cX7_lookedAt 167 = .ok (.iload 6, 2) := by decide +kernel
theorem dX7_lookedAt_169 : decode cX7_lookedAt 169 = .ok (.ifCond .lt 27, 3) := by decide +kernel
theorem dX7_lookedAt_172 : decode cX7_lookedAt 172 = .ok (.iload 7, 2) := by decide +kernel
theorem dX7_lookedAt_174 : decode cX7_lookedAt 174 = .ok (.ifCond .ne 22, 3) := by decide +kernel
theorem dX7_lookedAt_177 : decode cX7_lookedAt 177 = .ok (.iload 4, 2) := by decide +kernel
theorem dX7_lookedAt_179 : decode cX7_lookedAt 179 = .ok (.iconst 1, 1) := by decide +kernel
theorem dX7_lookedAt_180 : decode cX7_lookedAt 180 = .ok (.iadd, 1) := by decide +kernel
theorem dX7_lookedAt_181 : decode cX7_lookedAt 181 = .ok (.aload_n 0, 1) := by decide +kernel
theorem dX7_lookedAt_182 : decode cX7_lookedAt 182 = .ok (.iload 6, 2) := by decide +kernel
theorem dX7_lookedAt_184 : decode cX7_lookedAt 184 = .ok (.invokevirtual 150, 3) := by decide +kernel
theorem dX7_lookedAt_187 : decode cX7_lookedAt 187 = .ok (.iadd, 1) := by decide +kernel
theorem dX7_lookedAt_188 : decode cX7_lookedAt 188 = .ok (.iload_n 2, 1) := by decide +kernel
theorem dX7_lookedAt_189 : decode cX7_lookedAt 189 = .ok (.if_icmp .gt 7, 3) := by decide +kernel
theorem dX7_lookedAt_192 : decode cX7_lookedAt 192 = .ok (.iconst 1, 1) := by decide +kernel
theorem dX7_lookedAt_193 : decode cX7_lookedAt 193 = .ok (.goto 4, 3) := by decide +kernel
theorem dX7_lookedAt_196 : decode cX7_lookedAt 196 = .ok (.iconst 0, 1) := by decide +kernel
theorem dX7_lookedAt_197 : decode cX7_lookedAt 197 = .ok (.istore 8, 2) := by decide +kernel
theorem dX7_lookedAt_199 : decode cX7_lookedAt 199 = .ok (.iload_n 3, 1) := by decide +kernel
theorem dX7_lookedAt_200 : decode cX7_lookedAt 200 = .ok (.iload 8, 2) := by decide +kernel
theorem dX7_lookedAt_202 : decode cX7_lookedAt 202 = .ok (.ifCond .eq 7, 3) := by decide +kernel
theorem dX7_lookedAt_205 : decode cX7_lookedAt 205 = .ok (.iconst 1, 1) := by decide +kernel
theorem dX7_lookedAt_206 : decode cX7_lookedAt 206 = .ok (.goto 4, 3) := by decide +kernel
theorem dX7_lookedAt_209 : decode cX7_lookedAt 209 = .ok (.iconst 0, 1) := by decide +kernel
theorem dX7_lookedAt_210 : decode cX7_lookedAt 210 = .ok (.iadd, 1) := by decide +kernel
theorem dX7_lookedAt_211 : decode cX7_lookedAt 211 = .ok (.istore_n 3, 1) := by decide +kernel
theorem dX7_lookedAt_212 : decode cX7_lookedAt 212 = .ok (.iload 8, 2) := by decide +kernel
theorem dX7_lookedAt_214 : decode cX7_lookedAt 214 = .ok (.ifCond .eq 28, 3) := by decide +kernel
theorem dX7_lookedAt_217 : decode cX7_lookedAt 217 = .ok (.iload 6, 2) := by decide +kernel
theorem dX7_lookedAt_219 : decode cX7_lookedAt 219 = .ok (.ifCond .eq 23, 3) := by decide +kernel
theorem dX7_lookedAt_222 : decode cX7_lookedAt 222 = .ok (.iinc 4 1, 3) := by decide +kernel
theorem dX7_lookedAt_225 : decode cX7_lookedAt 225 = .ok (.aload_n 0, 1) := by decide +kernel
theorem dX7_lookedAt_226 : decode cX7_lookedAt 226 = .ok (.getfield 44, 3) := by decide +kernel
theorem dX7_lookedAt_229 : decode cX7_lookedAt 229 = .ok (.iload 4, 2) := by decide +kernel
theorem dX7_lookedAt_231 : decode cX7_lookedAt 231 = .ok (.iload 6, 2) := by decide +kernel
theorem dX7_lookedAt_233 : decode cX7_lookedAt 233 = .ok (.iastore, 1) := by decide +kernel
theorem dX7_lookedAt_234 : decode cX7_lookedAt 234 = .ok (.aload_n 0, 1) := by decide +kernel
theorem dX7_lookedAt_235 : decode cX7_lookedAt 235 = .ok (.getfield 47, 3) := by decide +kernel
theorem dX7_lookedAt_238 : decode cX7_lookedAt 238 = .ok (.iload 4, 2) := by decide +kernel
theorem dX7_lookedAt_240 : decode cX7_lookedAt 240 = .ok (.iconst 0, 1) := by decide +kernel
theorem dX7_lookedAt_241 : decode cX7_lookedAt 241 = .ok (.iastore, 1) := by decide +kernel
theorem dX7_lookedAt_242 : decode cX7_lookedAt 242 = .ok (.goto (-169), 3) := by decide +kernel
theorem dX7_lookedAt_245 : decode cX7_lookedAt 245 = .ok (.iload_n 3, 1) := by decide +kernel
theorem dX7_lookedAt_246 : decode cX7_lookedAt 246 = .ok (.ireturn, 1) := by decide +kernel
theorem dX7_placeOf_0 : decode cX7_placeOf 0 = .ok (.iconst 0, 1) := by decide +kernel
theorem dX7_placeOf_1 : decode cX7_placeOf 1 = .ok (.istore_n 2, 1) := by decide +kernel
theorem dX7_placeOf_2 : decode cX7_placeOf 2 = .ok (.aload_n 0, 1) := by decide +kernel
theorem dX7_placeOf_3 : decode cX7_placeOf 3 = .ok (.getfield 26, 3) := by decide +kernel
theorem dX7_placeOf_6 : decode cX7_placeOf 6 = .ok (.iload_n 2, 1) := by decide +kernel
theorem dX7_placeOf_7 : decode cX7_placeOf 7 = .ok (.iaload, 1) := by decide +kernel
theorem dX7_placeOf_8 : decode cX7_placeOf 8 = .ok (.iload_n 1, 1) := by decide +kernel
theorem dX7_placeOf_9 : decode cX7_placeOf 9 = .ok (.if_icmp .eq 9, 3) := by decide +kernel
theorem dX7_placeOf_12 : decode cX7_placeOf 12 = .ok (.iinc 2 1, 3) := by decide +kernel
theorem dX7_placeOf_15 : decode cX7_placeOf 15 = .ok (.goto (-13), 3) := by decide +kernel
theorem dX7_placeOf_18 : decode cX7_placeOf 18 = .ok (.iload_n 2, 1) := by decide +kernel
theorem dX7_placeOf_19 : decode cX7_placeOf 19 = .ok (.ireturn, 1) := by decide +kernel
theorem dX7_simpleTurn_0 : decode cX7_simpleTurn 0 = .ok (.aload_n 0, 1) := by decide +kernel
theorem dX7_simpleTurn_1 : decode cX7_simpleTurn 1 = .ok (.getfield 59, 3) := by decide +kernel
theorem dX7_simpleTurn_4 : decode cX7_simpleTurn 4 = .ok (.istore_n 1, 1) := by decide +kernel
theorem dX7_simpleTurn_5 : decode cX7_simpleTurn 5 = .ok (.aload_n 0, 1) := by decide +kernel
theorem dX7_simpleTurn_6 : decode cX7_simpleTurn 6 = .ok (.getfield 26, 3) := by decide +kernel
theorem dX7_simpleTurn_9 : decode cX7_simpleTurn 9 = .ok (.iload_n 1, 1) := by decide +kernel
theorem dX7_simpleTurn_10 : decode cX7_simpleTurn 10 = .ok (.iconst 1, 1) := by decide +kernel
theorem dX7_simpleTurn_11 : decode cX7_simpleTurn 11 = .ok (.isub, 1) := by decide +kernel
theorem dX7_simpleTurn_12 : decode cX7_simpleTurn 12 = .ok (.iaload, 1) := by decide +kernel
theorem dX7_simpleTurn_13 : decode cX7_simpleTurn 13 = .ok (.iload_n 1, 1) := by decide +kernel
theorem dX7_simpleTurn_14 : decode cX7_simpleTurn 14 = .ok (.if_icmp .ne 20, 3) := by decide +kernel
theorem dX7_simpleTurn_17 : decode cX7_simpleTurn 17 = .ok (.aload_n 0, 1) := by decide +kernel
theorem dX7_simpleTurn_18 : decode cX7_simpleTurn 18 = .ok (.getfield 29, 3) := by decide +kernel
theorem dX7_simpleTurn_21 : decode cX7_simpleTurn 21 = .ok (.iload_n 1, 1) := by decide +kernel
theorem dX7_simpleTurn_22 : decode cX7_simpleTurn 22 = .ok (.iconst 1, 1) := by decide +kernel
theorem dX7_simpleTurn_23 : decode cX7_simpleTurn 23 = .ok (.isub, 1) := by decide +kernel
theorem dX7_simpleTurn_24 : decode cX7_simpleTurn 24 = .ok (.iaload, 1) := by decide +kernel
theorem dX7_simpleTurn_25 : decode cX7_simpleTurn 25 = .ok (.ifCond .ne 9, 3) := by decide +kernel
theorem dX7_simpleTurn_28 : decode cX7_simpleTurn 28 = .ok (.iinc 1 (-1), 3) := by decide +kernel
theorem dX7_simpleTurn_31 : decode cX7_simpleTurn 31 = .ok (.goto (-26), 3) := by decide +kernel
theorem dX7_simpleTurn_34 : decode cX7_simpleTurn 34 = .ok (.aload_n 0, 1) := by decide +kernel
theorem dX7_simpleTurn_35 : decode cX7_simpleTurn 35 = .ok (.iload_n 1, 1) := by decide +kernel
theorem dX7_simpleTurn_36 : decode cX7_simpleTurn 36 = .ok (.invokevirtual 153, 3) := by decide +kernel
theorem dX7_simpleTurn_39 : decode cX7_simpleTurn 39 = .ok (.istore_n 2, 1) := by decide +kernel
theorem dX7_simpleTurn_40 : decode cX7_simpleTurn 40 = .ok (.iload_n 2, 1) := by decide +kernel
theorem dX7_simpleTurn_41 : decode cX7_simpleTurn 41 = .ok (.iload_n 1, 1) := by decide +kernel
theorem dX7_simpleTurn_42 : decode cX7_simpleTurn 42 = .ok (.iconst 1, 1) := by decide +kernel
theorem dX7_simpleTurn_43 : decode cX7_simpleTurn 43 = .ok (.isub, 1) := by decide +kernel
theorem dX7_simpleTurn_44 : decode cX7_simpleTurn 44 = .ok (.if_icmp .ne 5, 3) := by decide +kernel
theorem dX7_simpleTurn_47 : decode cX7_simpleTurn 47 = .ok (.iload_n 1, 1) := by decide +kernel
theorem dX7_simpleTurn_48 : decode cX7_simpleTurn 48 = .ok (.ireturn, 1) := by decide +kernel
theorem dX7_simpleTurn_49 : decode cX7_simpleTurn 49 = .ok (.iload_n 2, 1) := by decide +kernel
theorem dX7_simpleTurn_50 : decode cX7_simpleTurn 50 = .ok (.ifCond .le 7, 3) := by decide +kernel
theorem dX7_simpleTurn_53 : decode cX7_simpleTurn 53 = .ok (.iload_n 2, 1) := by decide +kernel
theorem dX7_simpleTurn_54 : decode cX7_simpleTurn 54 = .ok (.iconst 1, 1) := by decide +kernel
theorem dX7_simpleTurn_55 : decode cX7_simpleTurn 55 = .ok (.iadd, 1) := by decide +kernel
theorem dX7_simpleTurn_56 : decode cX7_simpleTurn 56 = .ok (.ireturn, 1) := by decide +kernel
theorem dX7_simpleTurn_57 : decode cX7_simpleTurn 57 = .ok (.aload_n 0, 1) := by decide +kernel
theorem dX7_simpleTurn_58 : decode cX7_simpleTurn 58 = .ok (.getfield 66, 3) := by decide +kernel
theorem dX7_simpleTurn_61 : decode cX7_simpleTurn 61 = .ok (.invokestatic 76, 3) := by decide +kernel
theorem dX7_simpleTurn_64 : decode cX7_simpleTurn 64 = .ok (.ifCond .eq 16, 3) := by decide +kernel
theorem dX7_simpleTurn_67 : decode cX7_simpleTurn 67 = .ok (.aload_n 0, 1) := by decide +kernel
theorem dX7_simpleTurn_68 : decode cX7_simpleTurn 68 = .ok (.getfield 29, 3) := by decide +kernel
theorem dX7_simpleTurn_71 : decode cX7_simpleTurn 71 = .ok (.iconst 0, 1) := by decide +kernel
theorem dX7_simpleTurn_72 : decode cX7_simpleTurn 72 = .ok (.iaload, 1) := by decide +kernel
theorem dX7_simpleTurn_73 : decode cX7_simpleTurn 73 = .ok (.ifCond .ne 7, 3) := by decide +kernel
theorem dX7_simpleTurn_76 : decode cX7_simpleTurn 76 = .ok (.iconst 1, 1) := by decide +kernel
theorem dX7_simpleTurn_77 : decode cX7_simpleTurn 77 = .ok (.goto 4, 3) := by decide +kernel
theorem dX7_simpleTurn_80 : decode cX7_simpleTurn 80 = .ok (.iload_n 1, 1) := by decide +kernel
theorem dX7_simpleTurn_81 : decode cX7_simpleTurn 81 = .ok (.ireturn, 1) := by decide +kernel
theorem dX7_simple_0 : decode cX7_simple 0 = .ok (.aload_n 0, 1) := by decide +kernel
theorem dX7_simple_1 : decode cX7_simple 1 = .ok (.iload_n 1, 1) := by decide +kernel
theorem dX7_simple_2 : decode cX7_simple 2 = .ok (.invokevirtual 98, 3) := by decide +kernel
theorem dX7_simple_5 : decode cX7_simple 5 = .ok (.ifCond .eq 12, 3) := by decide +kernel
theorem dX7_simple_8 : decode cX7_simple 8 = .ok (.iload_n 2, 1) := by decide +kernel
theorem dX7_simple_9 : decode cX7_simple 9 = .ok (.iconst 0, 1) := by decide +kernel
theorem dX7_simple_10 : decode cX7_simple 10 = .ok (.iconst 2, 1) := by decide +kernel
theorem dX7_simple_11 : decode cX7_simple 11 = .ok (.invokestatic 50, 3) := by decide +kernel
theorem dX7_simple_14 : decode cX7_simple 14 = .ok (.ifCond .ne 6, 3) := by decide +kernel
theorem dX7_simple_17 : decode cX7_simple 17 = .ok (.ldc 54, 2) := by decide +kernel
theorem dX7_simple_19 : decode cX7_simple 19 = .ok (.ireturn, 1) := by decide +kernel
theorem dX7_simple_20 : decode cX7_simple 20 = .ok (.aload_n 0, 1) := by decide +kernel
theorem dX7_simple_21 : decode cX7_simple 21 = .ok (.iload_n 1, 1) := by decide +kernel
theorem dX7_simple_22 : decode cX7_simple 22 = .ok (.invokevirtual 105, 3) := by decide +kernel
theorem dX7_simple_25 : decode cX7_simple 25 = .ok (.iconst 0, 1) := by decide +kernel
theorem dX7_simple_26 : decode cX7_simple 26 = .ok (.istore_n 3, 1) := by decide +kernel
theorem dX7_simple_27 : decode cX7_simple 27 = .ok (.iconst 0, 1) := by decide +kernel
theorem dX7_simple_28 : decode cX7_simple 28 = .ok (.istore 4, 2) := by decide +kernel
theorem dX7_simple_30 : decode cX7_simple 30 = .ok (.iconst 1, 1) := by decide +kernel
theorem dX7_simple_31 : decode cX7_simple 31 = .ok (.istore 5, 2) := by decide +kernel
theorem dX7_simple_33 : decode cX7_simple 33 = .ok (.aload_n 0, 1) := by decide +kernel
theorem dX7_simple_34 : decode cX7_simple 34 = .ok (.invokevirtual 126, 3) := by decide +kernel
theorem dX7_simple_37 : decode cX7_simple 37 = .ok (.ifCond .ne 49, 3) := by decide +kernel
theorem dX7_simple_40 : decode cX7_simple 40 = .ok (.aload_n 0, 1) := by decide +kernel
theorem dX7_simple_41 : decode cX7_simple 41 = .ok (.invokevirtual 156, 3) := by decide +kernel
theorem dX7_simple_44 : decode cX7_simple 44 = .ok (.istore 6, 2) := by decide +kernel
theorem dX7_simple_46 : decode cX7_simple 46 = .ok (.iload 5, 2) := by decide +kernel
theorem dX7_simple_48 : decode cX7_simple 48 = .ok (.ifCond .eq 16, 3) := by decide +kernel
theorem dX7_simple_51 : decode cX7_simple 51 = .ok (.aload_n 0, 1) := by decide +kernel
theorem dX7_simple_52 : decode cX7_simple 52 = .ok (.iload 6, 2) := by decide +kernel
theorem dX7_simple_54 : decode cX7_simple 54 = .ok (.invokevirtual 112, 3) := by decide +kernel
theorem dX7_simple_57 : decode cX7_simple 57 = .ok (.ifCond .eq 7, 3) := by decide +kernel
theorem dX7_simple_60 : decode cX7_simple 60 = .ok (.iconst 1, 1) := by decide +kernel
theorem dX7_simple_61 : decode cX7_simple 61 = .ok (.goto 4, 3) := by decide +kernel
theorem dX7_simple_64 : decode cX7_simple 64 = .ok (.iconst 0, 1) := by decide +kernel
theorem dX7_simple_65 : decode cX7_simple 65 = .ok (.istore 5, 2) := by decide +kernel
theorem dX7_simple_67 : decode cX7_simple 67 = .ok (.aload_n 0, 1) := by decide +kernel
theorem dX7_simple_68 : decode cX7_simple 68 = .ok (.iload 6, 2) := by decide +kernel
theorem dX7_simple_70 : decode cX7_simple 70 = .ok (.invokevirtual 116, 3) := by decide +kernel
theorem dX7_simple_73 : decode cX7_simple 73 = .ok (.iinc 3 1, 3) := by decide +kernel
theorem dX7_simple_76 : decode cX7_simple 76 = .ok (.iload 4, 2) := by decide +kernel
theorem dX7_simple_78 : decode cX7_simple 78 = .ok (.iload 6, 2) := by decide +kernel
theorem dX7_simple_80 : decode cX7_simple 80 = .ok (.iadd, 1) := by decide +kernel
theorem dX7_simple_81 : decode cX7_simple 81 = .ok (.istore 4, 2) := by decide +kernel
theorem dX7_simple_83 : decode cX7_simple 83 = .ok (.goto (-50), 3) := by decide +kernel
theorem dX7_simple_86 : decode cX7_simple 86 = .ok (.iload_n 2, 1) := by decide +kernel
theorem dX7_simple_87 : decode cX7_simple 87 = .ok (.ifCond .ne 7, 3) := by decide +kernel
theorem dX7_simple_90 : decode cX7_simple 90 = .ok (.iload_n 3, 1) := by decide +kernel
theorem dX7_simple_91 : decode cX7_simple 91 = .ok (.goto 23, 3) := by decide +kernel
theorem dX7_simple_94 : decode cX7_simple 94 = .ok (.iload_n 2, 1) := by decide +kernel
theorem dX7_simple_95 : decode cX7_simple 95 = .ok (.iconst 1, 1) := by decide +kernel
theorem dX7_simple_96 : decode cX7_simple 96 = .ok (.if_icmp .ne 8, 3) := by decide +kernel
theorem dX7_simple_99 : decode cX7_simple 99 = .ok (.iload 4, 2) := by decide +kernel
theorem dX7_simple_101 : decode cX7_simple 101 = .ok (.goto 13, 3) := by decide +kernel
theorem dX7_simple_104 : decode cX7_simple 104 = .ok (.iload 5, 2) := by decide +kernel
theorem dX7_simple_106 : decode cX7_simple 106 = .ok (.ifCond .eq 7, 3) := by decide +kernel
theorem dX7_simple_109 : decode cX7_simple 109 = .ok (.iconst 1, 1) := by decide +kernel
theorem dX7_simple_110 : decode cX7_simple 110 = .ok (.goto 4, 3) := by decide +kernel
theorem dX7_simple_113 : decode cX7_simple 113 = .ok (.iconst 0, 1) := by decide +kernel
theorem dX7_simple_114 : decode cX7_simple 114 = .ok (.ireturn, 1) := by decide +kernel
theorem dX7_bestTurn_0 : decode cX7_bestTurn 0 = .ok (.aload_n 0, 1) := by decide +kernel
theorem dX7_bestTurn_1 : decode cX7_bestTurn 1 = .ok (.iload_n 1, 1) := by decide +kernel
theorem dX7_bestTurn_2 : decode cX7_bestTurn 2 = .ok (.invokevirtual 98, 3) := by decide +kernel
theorem dX7_bestTurn_5 : decode cX7_bestTurn 5 = .ok (.ifCond .ne 6, 3) := by decide +kernel
theorem dX7_bestTurn_8 : decode cX7_bestTurn 8 = .ok (.ldc 54, 2) := by decide +kernel
theorem dX7_bestTurn_10 : decode cX7_bestTurn 10 = .ok (.ireturn, 1) := by decide +kernel
theorem dX7_bestTurn_11 : decode cX7_bestTurn 11 = .ok (.aload_n 0, 1) := by decide +kernel
theorem dX7_bestTurn_12 : decode cX7_bestTurn 12 = .ok (.iload_n 1, 1) := by decide +kernel
theorem dX7_bestTurn_13 : decode cX7_bestTurn 13 = .ok (.invokevirtual 105, 3) := by decide +kernel
theorem dX7_bestTurn_16 : decode cX7_bestTurn 16 = .ok (.ldc 149, 2) := by decide +kernel
theorem dX7_bestTurn_18 : decode cX7_bestTurn 18 = .ok (.istore_n 2, 1) := by decide +kernel
theorem dX7_bestTurn_19 : decode cX7_bestTurn 19 = .ok (.bipush 9, 2) := by decide +kernel
theorem dX7_bestTurn_21 : decode cX7_bestTurn 21 = .ok (.istore_n 3, 1) := by decide +kernel
theorem dX7_bestTurn_22 : decode cX7_bestTurn 22 = .ok (.iconst 1, 1) := by decide +kernel
theorem dX7_bestTurn_23 : decode cX7_bestTurn 23 = .ok (.istore 4, 2) := by decide +kernel
theorem dX7_bestTurn_25 : decode cX7_bestTurn 25 = .ok (.iload 4, 2) := by decide +kernel
theorem dX7_bestTurn_27 : decode cX7_bestTurn 27 = .ok (.aload_n 0, 1) := by decide +kernel
theorem dX7_bestTurn_28 : decode cX7_bestTurn 28 = .ok (.getfield 59, 3) := by decide +kernel
theorem dX7_bestTurn_31 : decode cX7_bestTurn 31 = .ok (.if_icmp .gt 71, 3) := by decide +kernel
theorem dX7_bestTurn_34 : decode cX7_bestTurn 34 = .ok (.aload_n 0, 1) := by decide +kernel
theorem dX7_bestTurn_35 : decode cX7_bestTurn 35 = .ok (.iload 4, 2) := by decide +kernel
theorem dX7_bestTurn_37 : decode cX7_bestTurn 37 = .ok (.invokevirtual 112, 3) := by decide +kernel
theorem dX7_bestTurn_40 : decode cX7_bestTurn 40 = .ok (.istore 5, 2) := by decide +kernel
theorem dX7_bestTurn_42 : decode cX7_bestTurn 42 = .ok (.aload_n 0, 1) := by decide +kernel
theorem dX7_bestTurn_43 : decode cX7_bestTurn 43 = .ok (.iload 4, 2) := by decide +kernel
theorem dX7_bestTurn_45 : decode cX7_bestTurn 45 = .ok (.invokevirtual 116, 3) := by decide +kernel
theorem dX7_bestTurn_48 : decode cX7_bestTurn 48 = .ok (.iload 5, 2) := by decide +kernel
theorem dX7_bestTurn_50 : decode cX7_bestTurn 50 = .ok (.ifCond .eq 10, 3) := by decide +kernel
theorem dX7_bestTurn_53 : decode cX7_bestTurn 53 = .ok (.aload_n 0, 1) := by decide +kernel
theorem dX7_bestTurn_54 : decode cX7_bestTurn 54 = .ok (.invokevirtual 109, 3) := by decide +kernel
theorem dX7_bestTurn_57 : decode cX7_bestTurn 57 = .ok (.goto 5, 3) := by decide +kernel
theorem dX7_bestTurn_60 : decode cX7_bestTurn 60 = .ok (.bipush 9, 2) := by decide +kernel
theorem dX7_bestTurn_62 : decode cX7_bestTurn 62 = .ok (.istore 6, 2) := by decide +kernel
theorem dX7_bestTurn_64 : decode cX7_bestTurn 64 = .ok (.aload_n 0, 1) := by decide +kernel
theorem dX7_bestTurn_65 : decode cX7_bestTurn 65 = .ok (.iload 4, 2) := by decide +kernel
theorem dX7_bestTurn_67 : decode cX7_bestTurn 67 = .ok (.invokevirtual 116, 3) := by decide +kernel
theorem dX7_bestTurn_70 : decode cX7_bestTurn 70 = .ok (.iload 6, 2) := by decide +kernel
theorem dX7_bestTurn_72 : decode cX7_bestTurn 72 = .ok (.iload_n 3, 1) := by decide +kernel
theorem dX7_bestTurn_73 : decode cX7_bestTurn 73 = .ok (.if_icmp .ge 8, 3) := by decide +kernel
theorem dX7_bestTurn_76 : decode cX7_bestTurn 76 = .ok (.iload 4, 2) := by decide +kernel
theorem dX7_bestTurn_78 : decode cX7_bestTurn 78 = .ok (.goto 4, 3) := by decide +kernel
theorem dX7_bestTurn_81 : decode cX7_bestTurn 81 = .ok (.iload_n 2, 1) := by decide +kernel
theorem dX7_bestTurn_82 : decode cX7_bestTurn 82 = .ok (.istore_n 2, 1) := by decide +kernel
theorem dX7_bestTurn_83 : decode cX7_bestTurn 83 = .ok (.iload 6, 2) := by decide +kernel
theorem dX7_bestTurn_85 : decode cX7_bestTurn 85 = .ok (.iload_n 3, 1) := by decide +kernel
theorem dX7_bestTurn_86 : decode cX7_bestTurn 86 = .ok (.if_icmp .ge 8, 3) := by decide +kernel
theorem dX7_bestTurn_89 : decode cX7_bestTurn 89 = .ok (.iload 6, 2) := by decide +kernel
theorem dX7_bestTurn_91 : decode cX7_bestTurn 91 = .ok (.goto 4, 3) := by decide +kernel
theorem dX7_bestTurn_94 : decode cX7_bestTurn 94 = .ok (.iload_n 3, 1) := by decide +kernel
theorem dX7_bestTurn_95 : decode cX7_bestTurn 95 = .ok (.istore_n 3, 1) := by decide +kernel
theorem dX7_bestTurn_96 : decode cX7_bestTurn 96 = .ok (.iinc 4 1, 3) := by decide +kernel
theorem dX7_bestTurn_99 : decode cX7_bestTurn 99 = .ok (.goto (-74), 3) := by decide +kernel
theorem dX7_bestTurn_102 : decode cX7_bestTurn 102 = .ok (.iload_n 2, 1) := by decide +kernel
theorem dX7_bestTurn_103 : decode cX7_bestTurn 103 = .ok (.ireturn, 1) := by decide +kernel
theorem dX7_ranked_0 : decode cX7_ranked 0 = .ok (.aload_n 0, 1) := by decide +kernel
theorem dX7_ranked_1 : decode cX7_ranked 1 = .ok (.iload_n 1, 1) := by decide +kernel
theorem dX7_ranked_2 : decode cX7_ranked 2 = .ok (.invokevirtual 98, 3) := by decide +kernel
theorem dX7_ranked_5 : decode cX7_ranked 5 = .ok (.ifCond .eq 16, 3) := by decide +kernel
theorem dX7_ranked_8 : decode cX7_ranked 8 = .ok (.iload_n 2, 1) := by decide +kernel
theorem dX7_ranked_9 : decode cX7_ranked 9 = .ok (.ifCond .lt 12, 3) := by decide +kernel
theorem dX7_ranked_12 : decode cX7_ranked 12 = .ok (.iload_n 3, 1) := by decide +kernel
theorem dX7_ranked_13 : decode cX7_ranked 13 = .ok (.iconst 0, 1) := by decide +kernel
theorem dX7_ranked_14 : decode cX7_ranked 14 = .ok (.iconst 1, 1) := by decide +kernel
theorem dX7_ranked_15 : decode cX7_ranked 15 = .ok (.invokestatic 50, 3) := by decide +kernel
theorem dX7_ranked_18 : decode cX7_ranked 18 = .ok (.ifCond .ne 6, 3) := by decide +kernel
theorem dX7_ranked_21 : decode cX7_ranked 21 = .ok (.ldc 54, 2) := by decide +kernel
theorem dX7_ranked_23 : decode cX7_ranked 23 = .ok (.ireturn, 1) := by decide +kernel
theorem dX7_ranked_24 : decode cX7_ranked 24 = .ok (.aload_n 0, 1) := by decide +kernel
theorem dX7_ranked_25 : decode cX7_ranked 25 = .ok (.iload_n 1, 1) := by decide +kernel
theorem dX7_ranked_26 : decode cX7_ranked 26 = .ok (.invokevirtual 105, 3) := by decide +kernel
theorem dX7_ranked_29 : decode cX7_ranked 29 = .ok (.iload_n 2, 1) := by decide +kernel
theorem dX7_ranked_30 : decode cX7_ranked 30 = .ok (.aload_n 0, 1) := by decide +kernel
theorem dX7_ranked_31 : decode cX7_ranked 31 = .ok (.invokevirtual 136, 3) := by decide +kernel
theorem dX7_ranked_34 : decode cX7_ranked 34 = .ok (.if_icmp .lt 6, 3) := by decide +kernel
theorem dX7_ranked_37 : decode cX7_ranked 37 = .ok (.ldc 149, 2) := by decide +kernel
theorem dX7_ranked_39 : decode cX7_ranked 39 = .ok (.ireturn, 1) := by decide +kernel
theorem dX7_ranked_40 : decode cX7_ranked 40 = .ok (.aload_n 0, 1) := by decide +kernel
theorem dX7_ranked_41 : decode cX7_ranked 41 = .ok (.iload_n 2, 1) := by decide +kernel
theorem dX7_ranked_42 : decode cX7_ranked 42 = .ok (.invokevirtual 139, 3) := by decide +kernel
theorem dX7_ranked_45 : decode cX7_ranked 45 = .ok (.iload_n 3, 1) := by decide +kernel
theorem dX7_ranked_46 : decode cX7_ranked 46 = .ok (.ifCond .ne 10, 3) := by decide +kernel
theorem dX7_ranked_49 : decode cX7_ranked 49 = .ok (.aload_n 0, 1) := by decide +kernel
theorem dX7_ranked_50 : decode cX7_ranked 50 = .ok (.invokevirtual 119, 3) := by decide +kernel
theorem dX7_ranked_53 : decode cX7_ranked 53 = .ok (.goto 7, 3) := by decide +kernel
theorem dX7_ranked_56 : decode cX7_ranked 56 = .ok (.aload_n 0, 1) := by decide +kernel
theorem dX7_ranked_57 : decode cX7_ranked 57 = .ok (.invokevirtual 87, 3) := by decide +kernel
theorem dX7_ranked_60 : decode cX7_ranked 60 = .ok (.ireturn, 1) := by decide +kernel
theorem dX7_ofDistance_0 : decode cX7_ofDistance 0 = .ok (.aload_n 0, 1) := by decide +kernel
theorem dX7_ofDistance_1 : decode cX7_ofDistance 1 = .ok (.iload_n 1, 1) := by decide +kernel
theorem dX7_ofDistance_2 : decode cX7_ofDistance 2 = .ok (.invokevirtual 98, 3) := by decide +kernel
theorem dX7_ofDistance_5 : decode cX7_ofDistance 5 = .ok (.ifCond .eq 13, 3) := by decide +kernel
theorem dX7_ofDistance_8 : decode cX7_ofDistance 8 = .ok (.iload_n 2, 1) := by decide +kernel
theorem dX7_ofDistance_9 : decode cX7_ofDistance 9 = .ok (.iconst 0, 1) := by decide +kernel
theorem dX7_ofDistance_10 : decode cX7_ofDistance 10 = .ok (.bipush 12, 2) := by decide +kernel
theorem dX7_ofDistance_12 : decode cX7_ofDistance 12 = .ok (.invokestatic 50, 3) := by decide +kernel
theorem dX7_ofDistance_15 : decode cX7_ofDistance 15 = .ok (.ifCond .ne 6, 3) := by decide +kernel
theorem dX7_ofDistance_18 : decode cX7_ofDistance 18 = .ok (.ldc 54, 2) := by decide +kernel
theorem dX7_ofDistance_20 : decode cX7_ofDistance 20 = .ok (.ireturn, 1) := by decide +kernel
theorem dX7_ofDistance_21 : decode cX7_ofDistance 21 = .ok (.aload_n 0, 1) := by decide +kernel
theorem dX7_ofDistance_22 : decode cX7_ofDistance 22 = .ok (.iload_n 1, 1) := by decide +kernel
theorem dX7_ofDistance_23 : decode cX7_ofDistance 23 = .ok (.invokevirtual 143, 3) := by decide +kernel
theorem dX7_ofDistance_26 : decode cX7_ofDistance 26 = .ok (.pop, 1) := by decide +kernel
theorem dX7_ofDistance_27 : decode cX7_ofDistance 27 = .ok (.aload_n 0, 1) := by decide +kernel
theorem dX7_ofDistance_28 : decode cX7_ofDistance 28 = .ok (.invokevirtual 146, 3) := by decide +kernel
theorem dX7_ofDistance_31 : decode cX7_ofDistance 31 = .ok (.iconst 0, 1) := by decide +kernel
theorem dX7_ofDistance_32 : decode cX7_ofDistance 32 = .ok (.istore_n 3, 1) := by decide +kernel
theorem dX7_ofDistance_33 : decode cX7_ofDistance 33 = .ok (.iconst 0, 1) := by decide +kernel
theorem dX7_ofDistance_34 : decode cX7_ofDistance 34 = .ok (.istore 4, 2) := by decide +kernel
theorem dX7_ofDistance_36 : decode cX7_ofDistance 36 = .ok (.iload 4, 2) := by decide +kernel
theorem dX7_ofDistance_38 : decode cX7_ofDistance 38 = .ok (.aload_n 0, 1) := by decide +kernel
theorem dX7_ofDistance_39 : decode cX7_ofDistance 39 = .ok (.invokevirtual 136, 3) := by decide +kernel
theorem dX7_ofDistance_42 : decode cX7_ofDistance 42 = .ok (.if_icmp .ge 28, 3) := by decide +kernel
theorem dX7_ofDistance_45 : decode cX7_ofDistance 45 = .ok (.iload_n 3, 1) := by decide +kernel
theorem dX7_ofDistance_46 : decode cX7_ofDistance 46 = .ok (.aload_n 0, 1) := by decide +kernel
theorem dX7_ofDistance_47 : decode cX7_ofDistance 47 = .ok (.getfield 35, 3) := by decide +kernel
theorem dX7_ofDistance_50 : decode cX7_ofDistance 50 = .ok (.iload 4, 2) := by decide +kernel
theorem dX7_ofDistance_52 : decode cX7_ofDistance 52 = .ok (.iaload, 1) := by decide +kernel
theorem dX7_ofDistance_53 : decode cX7_ofDistance 53 = .ok (.iload_n 2, 1) := by decide +kernel
theorem dX7_ofDistance_54 : decode cX7_ofDistance 54 = .ok (.if_icmp .ne 7, 3) := by decide +kernel
theorem dX7_ofDistance_57 : decode cX7_ofDistance 57 = .ok (.iconst 1, 1) := by decide +kernel
theorem dX7_ofDistance_58 : decode cX7_ofDistance 58 = .ok (.goto 4, 3) := by decide +kernel
theorem dX7_ofDistance_61 : decode cX7_ofDistance 61 = .ok (.iconst 0, 1) := by decide +kernel
theorem dX7_ofDistance_62 : decode cX7_ofDistance 62 = .ok (.iadd, 1) := by decide +kernel
theorem dX7_ofDistance_63 : decode cX7_ofDistance 63 = .ok (.istore_n 3, 1) := by decide +kernel
theorem dX7_ofDistance_64 : decode cX7_ofDistance 64 = .ok (.iinc 4 1, 3) := by decide +kernel
theorem dX7_ofDistance_67 : decode cX7_ofDistance 67 = .ok (.goto (-31), 3) := by decide +kernel
theorem dX7_ofDistance_70 : decode cX7_ofDistance 70 = .ok (.iload_n 3, 1) := by decide +kernel
theorem dX7_ofDistance_71 : decode cX7_ofDistance 71 = .ok (.ireturn, 1) := by decide +kernel
theorem dX7_ofAll_0 : decode cX7_ofAll 0 = .ok (.iconst 0, 1) := by decide +kernel
theorem dX7_ofAll_1 : decode cX7_ofAll 1 = .ok (.istore_n 2, 1) := by decide +kernel
theorem dX7_ofAll_2 : decode cX7_ofAll 2 = .ok (.iconst 0, 1) := by decide +kernel
theorem dX7_ofAll_3 : decode cX7_ofAll 3 = .ok (.istore_n 3, 1) := by decide +kernel
theorem dX7_ofAll_4 : decode cX7_ofAll 4 = .ok (.iload_n 3, 1) := by decide +kernel
theorem dX7_ofAll_5 : decode cX7_ofAll 5 = .ok (.aload_n 0, 1) := by decide +kernel
theorem dX7_ofAll_6 : decode cX7_ofAll 6 = .ok (.getfield 7, 3) := by decide +kernel
theorem dX7_ofAll_9 : decode cX7_ofAll 9 = .ok (.iconst 0, 1) := by decide +kernel
theorem dX7_ofAll_10 : decode cX7_ofAll 10 = .ok (.iaload, 1) := by decide +kernel
theorem dX7_ofAll_11 : decode cX7_ofAll 11 = .ok (.if_icmp .ge 41, 3) := by decide +kernel
theorem dX7_ofAll_14 : decode cX7_ofAll 14 = .ok (.aload_n 0, 1) := by decide +kernel
theorem dX7_ofAll_15 : decode cX7_ofAll 15 = .ok (.iload_n 3, 1) := by decide +kernel
theorem dX7_ofAll_16 : decode cX7_ofAll 16 = .ok (.invokevirtual 105, 3) := by decide +kernel
theorem dX7_ofAll_19 : decode cX7_ofAll 19 = .ok (.iload_n 2, 1) := by decide +kernel
theorem dX7_ofAll_20 : decode cX7_ofAll 20 = .ok (.iload_n 1, 1) := by decide +kernel
theorem dX7_ofAll_21 : decode cX7_ofAll 21 = .ok (.iconst 1, 1) := by decide +kernel
theorem dX7_ofAll_22 : decode cX7_ofAll 22 = .ok (.if_icmp .ne 18, 3) := by decide +kernel
theorem dX7_ofAll_25 : decode cX7_ofAll 25 = .ok (.aload_n 0, 1) := by decide +kernel
theorem dX7_ofAll_26 : decode cX7_ofAll 26 = .ok (.invokevirtual 126, 3) := by decide +kernel
theorem dX7_ofAll_29 : decode cX7_ofAll 29 = .ok (.ifCond .eq 7, 3) := by decide +kernel
theorem dX7_ofAll_32 : decode cX7_ofAll 32 = .ok (.iconst 1, 1) := by decide +kernel
theorem dX7_ofAll_33 : decode cX7_ofAll 33 = .ok (.goto 11, 3) := by decide +kernel
theorem dX7_ofAll_36 : decode cX7_ofAll 36 = .ok (.iconst 0, 1) := by decide +kernel
theorem dX7_ofAll_37 : decode cX7_ofAll 37 = .ok (.goto 7, 3) := by decide +kernel
theorem dX7_ofAll_40 : decode cX7_ofAll 40 = .ok (.aload_n 0, 1) := by decide +kernel
theorem dX7_ofAll_41 : decode cX7_ofAll 41 = .ok (.invokevirtual 109, 3) := by decide +kernel
theorem dX7_ofAll_44 : decode cX7_ofAll 44 = .ok (.iadd, 1) := by decide +kernel
theorem dX7_ofAll_45 : decode cX7_ofAll 45 = .ok (.istore_n 2, 1) := by decide +kernel
theorem dX7_ofAll_46 : decode cX7_ofAll 46 = .ok (.iinc 3 1, 3) := by decide +kernel
theorem dX7_ofAll_49 : decode cX7_ofAll 49 = .ok (.goto (-45), 3) := by decide +kernel
theorem dX7_ofAll_52 : decode cX7_ofAll 52 = .ok (.iload_n 2, 1) := by decide +kernel
theorem dX7_ofAll_53 : decode cX7_ofAll 53 = .ok (.ireturn, 1) := by decide +kernel
theorem dX7_count_0 : decode cX7_count 0 = .ok (.iload_n 1, 1) := by decide +kernel
theorem dX7_count_1 : decode cX7_count 1 = .ok (.tableswitch 111 0 12 #[67, 74, 74, 111, 111, 111, 111, 111, 111, 111, 80, 101, 106], 67) := by decide +kernel
theorem dX7_count_68 : decode cX7_count 68 = .ok (.aload_n 0, 1) := by decide +kernel
theorem dX7_count_69 : decode cX7_count 69 = .ok (.getfield 7, 3) := by decide +kernel
theorem dX7_count_72 : decode cX7_count 72 = .ok (.iconst 0, 1) := by decide +kernel
theorem dX7_count_73 : decode cX7_count 73 = .ok (.iaload, 1) := by decide +kernel
theorem dX7_count_74 : decode cX7_count 74 = .ok (.ireturn, 1) := by decide +kernel
theorem dX7_count_75 : decode cX7_count 75 = .ok (.aload_n 0, 1) := by decide +kernel
theorem dX7_count_76 : decode cX7_count 76 = .ok (.iload_n 1, 1) := by decide +kernel
theorem dX7_count_77 : decode cX7_count 77 = .ok (.invokevirtual 159, 3) := by decide +kernel
theorem dX7_count_80 : decode cX7_count 80 = .ok (.ireturn, 1) := by decide +kernel
theorem dX7_count_81 : decode cX7_count 81 = .ok (.aload_n 0, 1) := by decide +kernel
theorem dX7_count_82 : decode cX7_count 82 = .ok (.getfield 7, 3) := by decide +kernel
theorem dX7_count_85 : decode cX7_count 85 = .ok (.iconst 2, 1) := by decide +kernel
theorem dX7_count_86 : decode cX7_count 86 = .ok (.iaload, 1) := by decide +kernel
theorem dX7_count_87 : decode cX7_count 87 = .ok (.aload_n 0, 1) := by decide +kernel
theorem dX7_count_88 : decode cX7_count 88 = .ok (.getfield 7, 3) := by decide +kernel
theorem dX7_count_91 : decode cX7_count 91 = .ok (.iconst 3, 1) := by decide +kernel
theorem dX7_count_92 : decode cX7_count 92 = .ok (.iaload, 1) := by decide +kernel
theorem dX7_count_93 : decode cX7_count 93 = .ok (.iadd, 1) := by decide +kernel
theorem dX7_count_94 : decode cX7_count 94 = .ok (.aload_n 0, 1) := by decide +kernel
theorem dX7_count_95 : decode cX7_count 95 = .ok (.getfield 7, 3) := by decide +kernel
theorem dX7_count_98 : decode cX7_count 98 = .ok (.iconst 4, 1) := by decide +kernel
theorem dX7_count_99 : decode cX7_count 99 = .ok (.iaload, 1) := by decide +kernel
theorem dX7_count_100 : decode cX7_count 100 = .ok (.iadd, 1) := by decide +kernel
theorem dX7_count_101 : decode cX7_count 101 = .ok (.ireturn, 1) := by decide +kernel
theorem dX7_count_102 : decode cX7_count 102 = .ok (.aload_n 0, 1) := by decide +kernel
theorem dX7_count_103 : decode cX7_count 103 = .ok (.getfield 55, 3) := by decide +kernel
theorem dX7_count_106 : decode cX7_count 106 = .ok (.ireturn, 1) := by decide +kernel
theorem dX7_count_107 : decode cX7_count 107 = .ok (.aload_n 0, 1) := by decide +kernel
theorem dX7_count_108 : decode cX7_count 108 = .ok (.getfield 162, 3) := by decide +kernel
theorem dX7_count_111 : decode cX7_count 111 = .ok (.ireturn, 1) := by decide +kernel
theorem dX7_count_112 : decode cX7_count 112 = .ok (.iload_n 1, 1) := by decide +kernel
theorem dX7_count_113 : decode cX7_count 113 = .ok (.iconst 3, 1) := by decide +kernel
theorem dX7_count_114 : decode cX7_count 114 = .ok (.bipush 9, 2) := by decide +kernel
theorem dX7_count_116 : decode cX7_count 116 = .ok (.invokestatic 50, 3) := by decide +kernel
theorem dX7_count_119 : decode cX7_count 119 = .ok (.ifCond .eq 16, 3) := by decide +kernel
theorem dX7_count_122 : decode cX7_count 122 = .ok (.aload_n 0, 1) := by decide +kernel
theorem dX7_count_123 : decode cX7_count 123 = .ok (.getfield 7, 3) := by decide +kernel
theorem dX7_count_126 : decode cX7_count 126 = .ok (.iconst 1, 1) := by decide +kernel
theorem dX7_count_127 : decode cX7_count 127 = .ok (.iload_n 1, 1) := by decide +kernel
theorem dX7_count_128 : decode cX7_count 128 = .ok (.iadd, 1) := by decide +kernel
theorem dX7_count_129 : decode cX7_count 129 = .ok (.iconst 3, 1) := by decide +kernel
theorem dX7_count_130 : decode cX7_count 130 = .ok (.isub, 1) := by decide +kernel
theorem dX7_count_131 : decode cX7_count 131 = .ok (.iaload, 1) := by decide +kernel
theorem dX7_count_132 : decode cX7_count 132 = .ok (.goto 5, 3) := by decide +kernel
theorem dX7_count_135 : decode cX7_count 135 = .ok (.ldc 54, 2) := by decide +kernel
theorem dX7_count_137 : decode cX7_count 137 = .ok (.ireturn, 1) := by decide +kernel
theorem dX7_undo_0 : decode cX7_undo 0 = .ok (.aload_n 0, 1) := by decide +kernel
theorem dX7_undo_1 : decode cX7_undo 1 = .ok (.getfield 55, 3) := by decide +kernel
theorem dX7_undo_4 : decode cX7_undo 4 = .ok (.ifCond .ne 6, 3) := by decide +kernel
theorem dX7_undo_7 : decode cX7_undo 7 = .ok (.ldc 115, 2) := by decide +kernel
theorem dX7_undo_9 : decode cX7_undo 9 = .ok (.ireturn, 1) := by decide +kernel
theorem dX7_undo_10 : decode cX7_undo 10 = .ok (.aload_n 0, 1) := by decide +kernel
theorem dX7_undo_11 : decode cX7_undo 11 = .ok (.dup, 1) := by decide +kernel
theorem dX7_undo_12 : decode cX7_undo 12 = .ok (.getfield 55, 3) := by decide +kernel
theorem dX7_undo_15 : decode cX7_undo 15 = .ok (.iconst 1, 1) := by decide +kernel
theorem dX7_undo_16 : decode cX7_undo 16 = .ok (.isub, 1) := by decide +kernel
theorem dX7_undo_17 : decode cX7_undo 17 = .ok (.putfield 55, 3) := by decide +kernel
theorem dX7_undo_20 : decode cX7_undo 20 = .ok (.iconst 0, 1) := by decide +kernel
theorem dX7_undo_21 : decode cX7_undo 21 = .ok (.istore_n 1, 1) := by decide +kernel
theorem dX7_undo_22 : decode cX7_undo 22 = .ok (.iload_n 1, 1) := by decide +kernel
theorem dX7_undo_23 : decode cX7_undo 23 = .ok (.bipush 38, 2) := by decide +kernel
theorem dX7_undo_25 : decode cX7_undo 25 = .ok (.if_icmp .ge 29, 3) := by decide +kernel
theorem dX7_undo_28 : decode cX7_undo 28 = .ok (.aload_n 0, 1) := by decide +kernel
theorem dX7_undo_29 : decode cX7_undo 29 = .ok (.getfield 7, 3) := by decide +kernel
theorem dX7_undo_32 : decode cX7_undo 32 = .ok (.iload_n 1, 1) := by decide +kernel
theorem dX7_undo_33 : decode cX7_undo 33 = .ok (.aload_n 0, 1) := by decide +kernel
theorem dX7_undo_34 : decode cX7_undo 34 = .ok (.getfield 13, 3) := by decide +kernel
theorem dX7_undo_37 : decode cX7_undo 37 = .ok (.bipush 38, 2) := by decide +kernel
theorem dX7_undo_39 : decode cX7_undo 39 = .ok (.aload_n 0, 1) := by decide +kernel
theorem dX7_undo_40 : decode cX7_undo 40 = .ok (.getfield 55, 3) := by decide +kernel
theorem dX7_undo_43 : decode cX7_undo 43 = .ok (.imul, 1) := by decide +kernel
theorem dX7_undo_44 : decode cX7_undo 44 = .ok (.iload_n 1, 1) := by decide +kernel
theorem dX7_undo_45 : decode cX7_undo 45 = .ok (.iadd, 1) := by decide +kernel
theorem dX7_undo_46 : decode cX7_undo 46 = .ok (.iaload, 1) := by decide +kernel
theorem dX7_undo_47 : decode cX7_undo 47 = .ok (.iastore, 1) := by decide +kernel
theorem dX7_undo_48 : decode cX7_undo 48 = .ok (.iinc 1 1, 3) := by decide +kernel
theorem dX7_undo_51 : decode cX7_undo 51 = .ok (.goto (-29), 3) := by decide +kernel
theorem dX7_undo_54 : decode cX7_undo 54 = .ok (.aload_n 0, 1) := by decide +kernel
theorem dX7_undo_55 : decode cX7_undo 55 = .ok (.getfield 55, 3) := by decide +kernel
theorem dX7_undo_58 : decode cX7_undo 58 = .ok (.ireturn, 1) := by decide +kernel
theorem dX7_type_0 : decode cX7_type 0 = .ok (.iload_n 1, 1) := by decide +kernel
theorem dX7_type_1 : decode cX7_type 1 = .ok (.bipush 32, 2) := by decide +kernel
theorem dX7_type_3 : decode cX7_type 3 = .ok (.bipush 126, 2) := by decide +kernel
theorem dX7_type_5 : decode cX7_type 5 = .ok (.invokestatic 50, 3) := by decide +kernel
theorem dX7_type_8 : decode cX7_type 8 = .ok (.ifCond .ne 6, 3) := by decide +kernel
theorem dX7_type_11 : decode cX7_type 11 = .ok (.ldc 54, 2) := by decide +kernel
theorem dX7_type_13 : decode cX7_type 13 = .ok (.ireturn, 1) := by decide +kernel
theorem dX7_type_14 : decode cX7_type 14 = .ok (.aload_n 0, 1) := by decide +kernel
theorem dX7_type_15 : decode cX7_type 15 = .ok (.getfield 162, 3) := by decide +kernel
theorem dX7_type_18 : decode cX7_type 18 = .ok (.bipush 50, 2) := by decide +kernel
theorem dX7_type_20 : decode cX7_type 20 = .ok (.if_icmp .ne 6, 3) := by decide +kernel
theorem dX7_type_23 : decode cX7_type 23 = .ok (.ldc 91, 2) := by decide +kernel
theorem dX7_type_25 : decode cX7_type 25 = .ok (.ireturn, 1) := by decide +kernel
theorem dX7_type_26 : decode cX7_type 26 = .ok (.aload_n 0, 1) := by decide +kernel
theorem dX7_type_27 : decode cX7_type 27 = .ok (.getfield 22, 3) := by decide +kernel
theorem dX7_type_30 : decode cX7_type 30 = .ok (.aload_n 0, 1) := by decide +kernel
theorem dX7_type_31 : decode cX7_type 31 = .ok (.getfield 162, 3) := by decide +kernel
theorem dX7_type_34 : decode cX7_type 34 = .ok (.iload_n 1, 1) := by decide +kernel
theorem dX7_type_35 : decode cX7_type 35 = .ok (.i2c, 1) := by decide +kernel
theorem dX7_type_36 : decode cX7_type 36 = .ok (.castore, 1) := by decide +kernel
theorem dX7_type_37 : decode cX7_type 37 = .ok (.aload_n 0, 1) := by decide +kernel
theorem dX7_type_38 : decode cX7_type 38 = .ok (.dup, 1) := by decide +kernel
theorem dX7_type_39 : decode cX7_type 39 = .ok (.getfield 162, 3) := by decide +kernel
theorem dX7_type_42 : decode cX7_type 42 = .ok (.iconst 1, 1) := by decide +kernel
theorem dX7_type_43 : decode cX7_type 43 = .ok (.iadd, 1) := by decide +kernel
theorem dX7_type_44 : decode cX7_type 44 = .ok (.putfield 162, 3) := by decide +kernel
theorem dX7_type_47 : decode cX7_type 47 = .ok (.aload_n 0, 1) := by decide +kernel
theorem dX7_type_48 : decode cX7_type 48 = .ok (.getfield 162, 3) := by decide +kernel
theorem dX7_type_51 : decode cX7_type 51 = .ok (.ireturn, 1) := by decide +kernel
theorem dX7_clearText_0 : decode cX7_clearText 0 = .ok (.aload_n 0, 1) := by decide +kernel
theorem dX7_clearText_1 : decode cX7_clearText 1 = .ok (.getfield 162, 3) := by decide +kernel
theorem dX7_clearText_4 : decode cX7_clearText 4 = .ok (.istore_n 1, 1) := by decide +kernel
theorem dX7_clearText_5 : decode cX7_clearText 5 = .ok (.aload_n 0, 1) := by decide +kernel
theorem dX7_clearText_6 : decode cX7_clearText 6 = .ok (.iconst 0, 1) := by decide +kernel
theorem dX7_clearText_7 : decode cX7_clearText 7 = .ok (.putfield 162, 3) := by decide +kernel
theorem dX7_clearText_10 : decode cX7_clearText 10 = .ok (.iload_n 1, 1) := by decide +kernel
theorem dX7_clearText_11 : decode cX7_clearText 11 = .ok (.ireturn, 1) := by decide +kernel
theorem dX7_sign_0 : decode cX7_sign 0 = .ok (.aload_n 0, 1) := by decide +kernel
theorem dX7_sign_1 : decode cX7_sign 1 = .ok (.getfield 165, 3) := by decide +kernel
theorem dX7_sign_4 : decode cX7_sign 4 = .ok (.aload_n 0, 1) := by decide +kernel
theorem dX7_sign_5 : decode cX7_sign 5 = .ok (.getfield 162, 3) := by decide +kernel
theorem dX7_sign_8 : decode cX7_sign 8 = .ok (.if_icmp .ge 15, 3) := by decide +kernel
theorem dX7_sign_11 : decode cX7_sign 11 = .ok (.aload_n 0, 1) := by decide +kernel
theorem dX7_sign_12 : decode cX7_sign 12 = .ok (.getfield 22, 3) := by decide +kernel
theorem dX7_sign_15 : decode cX7_sign 15 = .ok (.aload_n 0, 1) := by decide +kernel
theorem dX7_sign_16 : decode cX7_sign 16 = .ok (.getfield 165, 3) := by decide +kernel
theorem dX7_sign_19 : decode cX7_sign 19 = .ok (.caload, 1) := by decide +kernel
theorem dX7_sign_20 : decode cX7_sign 20 = .ok (.goto 4, 3) := by decide +kernel
theorem dX7_sign_23 : decode cX7_sign 23 = .ok (.iconst (-1), 1) := by decide +kernel
theorem dX7_sign_24 : decode cX7_sign 24 = .ok (.ireturn, 1) := by decide +kernel
theorem dX7_does_0 : decode cX7_does 0 = .ok (.aload_n 0, 1) := by decide +kernel
theorem dX7_does_1 : decode cX7_does 1 = .ok (.invokevirtual 168, 3) := by decide +kernel
theorem dX7_does_4 : decode cX7_does 4 = .ok (.bipush 65, 2) := by decide +kernel
theorem dX7_does_6 : decode cX7_does 6 = .ok (.isub, 1) := by decide +kernel
theorem dX7_does_7 : decode cX7_does 7 = .ok (.istore_n 1, 1) := by decide +kernel
theorem dX7_does_8 : decode cX7_does 8 = .ok (.aload_n 0, 1) := by decide +kernel
theorem dX7_does_9 : decode cX7_does 9 = .ok (.iload_n 1, 1) := by decide +kernel
theorem dX7_does_10 : decode cX7_does 10 = .ok (.iconst 0, 1) := by decide +kernel
theorem dX7_does_11 : decode cX7_does 11 = .ok (.iconst 4, 1) := by decide +kernel
theorem dX7_does_12 : decode cX7_does 12 = .ok (.invokestatic 50, 3) := by decide +kernel
theorem dX7_does_15 : decode cX7_does 15 = .ok (.ifCond .eq 7, 3) := by decide +kernel
theorem dX7_does_18 : decode cX7_does 18 = .ok (.iconst 2, 1) := by decide +kernel
theorem dX7_does_19 : decode cX7_does 19 = .ok (.goto 4, 3) := by decide +kernel
theorem dX7_does_22 : decode cX7_does 22 = .ok (.iconst 1, 1) := by decide +kernel
theorem dX7_does_23 : decode cX7_does 23 = .ok (.putfield 171, 3) := by decide +kernel
theorem dX7_does_26 : decode cX7_does 26 = .ok (.iload_n 1, 1) := by decide +kernel
theorem dX7_does_27 : decode cX7_does 27 = .ok (.iconst 0, 1) := by decide +kernel
theorem dX7_does_28 : decode cX7_does 28 = .ok (.iconst 4, 1) := by decide +kernel
theorem dX7_does_29 : decode cX7_does 29 = .ok (.invokestatic 50, 3) := by decide +kernel
theorem dX7_does_32 : decode cX7_does 32 = .ok (.ifCond .eq 11, 3) := by decide +kernel
theorem dX7_does_35 : decode cX7_does 35 = .ok (.aload_n 0, 1) := by decide +kernel
theorem dX7_does_36 : decode cX7_does 36 = .ok (.iload_n 1, 1) := by decide +kernel
theorem dX7_does_37 : decode cX7_does 37 = .ok (.invokevirtual 98, 3) := by decide +kernel
theorem dX7_does_40 : decode cX7_does 40 = .ok (.ifCond .ne 5, 3) := by decide +kernel
theorem dX7_does_43 : decode cX7_does 43 = .ok (.iconst 0, 1) := by decide +kernel
theorem dX7_does_44 : decode cX7_does 44 = .ok (.ireturn, 1) := by decide +kernel
theorem dX7_does_45 : decode cX7_does 45 = .ok (.aload_n 0, 1) := by decide +kernel
theorem dX7_does_46 : decode cX7_does 46 = .ok (.dup, 1) := by decide +kernel
theorem dX7_does_47 : decode cX7_does 47 = .ok (.getfield 165, 3) := by decide +kernel
theorem dX7_does_50 : decode cX7_does 50 = .ok (.iconst 1, 1) := by decide +kernel
theorem dX7_does_51 : decode cX7_does 51 = .ok (.iadd, 1) := by decide +kernel
theorem dX7_does_52 : decode cX7_does 52 = .ok (.putfield 165, 3) := by decide +kernel
theorem dX7_does_55 : decode cX7_does 55 = .ok (.iconst 0, 1) := by decide +kernel
theorem dX7_does_56 : decode cX7_does 56 = .ok (.istore_n 2, 1) := by decide +kernel
theorem dX7_does_57 : decode cX7_does 57 = .ok (.aload_n 0, 1) := by decide +kernel
theorem dX7_does_58 : decode cX7_does 58 = .ok (.invokevirtual 168, 3) := by decide +kernel
theorem dX7_does_61 : decode cX7_does 61 = .ok (.bipush 48, 2) := by decide +kernel
theorem dX7_does_63 : decode cX7_does 63 = .ok (.bipush 57, 2) := by decide +kernel
theorem dX7_does_65 : decode cX7_does 65 = .ok (.invokestatic 50, 3) := by decide +kernel
theorem dX7_does_68 : decode cX7_does 68 = .ok (.ifCond .eq 51, 3) := by decide +kernel
theorem dX7_does_71 : decode cX7_does 71 = .ok (.aload_n 0, 1) := by decide +kernel
theorem dX7_does_72 : decode cX7_does 72 = .ok (.iconst 3, 1) := by decide +kernel
theorem dX7_does_73 : decode cX7_does 73 = .ok (.putfield 171, 3) := by decide +kernel
theorem dX7_does_76 : decode cX7_does 76 = .ok (.aload_n 0, 1) := by decide +kernel
theorem dX7_does_77 : decode cX7_does 77 = .ok (.iload_n 1, 1) := by decide +kernel
theorem dX7_does_78 : decode cX7_does 78 = .ok (.aload_n 0, 1) := by decide +kernel
theorem dX7_does_79 : decode cX7_does 79 = .ok (.invokevirtual 168, 3) := by decide +kernel
theorem dX7_does_82 : decode cX7_does 82 = .ok (.bipush 48, 2) := by decide +kernel
theorem dX7_does_84 : decode cX7_does 84 = .ok (.isub, 1) := by decide +kernel
theorem dX7_does_85 : decode cX7_does 85 = .ok (.invokevirtual 122, 3) := by decide +kernel
theorem dX7_does_88 : decode cX7_does 88 = .ok (.ifCond .ge 5, 3) := by decide +kernel
theorem dX7_does_91 : decode cX7_does 91 = .ok (.iconst 0, 1) := by decide +kernel
theorem dX7_does_92 : decode cX7_does 92 = .ok (.ireturn, 1) := by decide +kernel
theorem dX7_does_93 : decode cX7_does 93 = .ok (.iinc 2 1, 3) := by decide +kernel
theorem dX7_does_96 : decode cX7_does 96 = .ok (.aload_n 0, 1) := by decide +kernel
theorem dX7_does_97 : decode cX7_does 97 = .ok (.dup, 1) := by decide +kernel
theorem dX7_does_98 : decode cX7_does 98 = .ok (.getfield 174, 3) := by decide +kernel
theorem dX7_does_101 : decode cX7_does 101 = .ok (.iconst 1, 1) := by decide +kernel
theorem dX7_does_102 : decode cX7_does 102 = .ok (.iadd, 1) := by decide +kernel
theorem dX7_does_103 : decode cX7_does 103 = .ok (.putfield 174, 3) := by decide +kernel
theorem dX7_does_106 : decode cX7_does 106 = .ok (.aload_n 0, 1) := by decide +kernel
theorem dX7_does_107 : decode cX7_does 107 = .ok (.dup, 1) := by decide +kernel
theorem dX7_does_108 : decode cX7_does 108 = .ok (.getfield 165, 3) := by decide +kernel
theorem dX7_does_111 : decode cX7_does 111 = .ok (.iconst 1, 1) := by decide +kernel
theorem dX7_does_112 : decode cX7_does 112 = .ok (.iadd, 1) := by decide +kernel
theorem dX7_does_113 : decode cX7_does 113 = .ok (.putfield 165, 3) := by decide +kernel
theorem dX7_does_116 : decode cX7_does 116 = .ok (.goto (-59), 3) := by decide +kernel
theorem dX7_does_119 : decode cX7_does 119 = .ok (.aload_n 0, 1) := by decide +kernel
theorem dX7_does_120 : decode cX7_does 120 = .ok (.iconst 1, 1) := by decide +kernel
theorem dX7_does_121 : decode cX7_does 121 = .ok (.putfield 171, 3) := by decide +kernel
theorem dX7_does_124 : decode cX7_does 124 = .ok (.iload_n 2, 1) := by decide +kernel
theorem dX7_does_125 : decode cX7_does 125 = .ok (.ifCond .eq 12, 3) := by decide +kernel
theorem dX7_does_128 : decode cX7_does 128 = .ok (.aload_n 0, 1) := by decide +kernel
theorem dX7_does_129 : decode cX7_does 129 = .ok (.invokevirtual 168, 3) := by decide +kernel
theorem dX7_does_132 : decode cX7_does 132 = .ok (.bipush 59, 2) := by decide +kernel
theorem dX7_does_134 : decode cX7_does 134 = .ok (.if_icmp .eq 5, 3) := by decide +kernel
theorem dX7_does_137 : decode cX7_does 137 = .ok (.iconst 0, 1) := by decide +kernel
theorem dX7_does_138 : decode cX7_does 138 = .ok (.ireturn, 1) := by decide +kernel
theorem dX7_does_139 : decode cX7_does 139 = .ok (.aload_n 0, 1) := by decide +kernel
theorem dX7_does_140 : decode cX7_does 140 = .ok (.dup, 1) := by decide +kernel
theorem dX7_does_141 : decode cX7_does 141 = .ok (.getfield 165, 3) := by decide +kernel
theorem dX7_does_144 : decode cX7_does 144 = .ok (.iconst 1, 1) := by decide +kernel
theorem dX7_does_145 : decode cX7_does 145 = .ok (.iadd, 1) := by decide +kernel
theorem dX7_does_146 : decode cX7_does 146 = .ok (.putfield 165, 3) := by decide +kernel
theorem dX7_does_149 : decode cX7_does 149 = .ok (.iconst 1, 1) := by decide +kernel
theorem dX7_does_150 : decode cX7_does 150 = .ok (.ireturn, 1) := by decide +kernel
theorem dX7_reads_0 : decode cX7_reads 0 = .ok (.aload_n 0, 1) := by decide +kernel
theorem dX7_reads_1 : decode cX7_reads 1 = .ok (.iconst 0, 1) := by decide +kernel
theorem dX7_reads_2 : decode cX7_reads 2 = .ok (.putfield 165, 3) := by decide +kernel
theorem dX7_reads_5 : decode cX7_reads 5 = .ok (.aload_n 0, 1) := by decide +kernel
theorem dX7_reads_6 : decode cX7_reads 6 = .ok (.iconst 0, 1) := by decide +kernel
theorem dX7_reads_7 : decode cX7_reads 7 = .ok (.putfield 174, 3) := by decide +kernel
theorem dX7_reads_10 : decode cX7_reads 10 = .ok (.aload_n 0, 1) := by decide +kernel
theorem dX7_reads_11 : decode cX7_reads 11 = .ok (.getfield 165, 3) := by decide +kernel
theorem dX7_reads_14 : decode cX7_reads 14 = .ok (.aload_n 0, 1) := by decide +kernel
theorem dX7_reads_15 : decode cX7_reads 15 = .ok (.getfield 162, 3) := by decide +kernel
theorem dX7_reads_18 : decode cX7_reads 18 = .ok (.if_icmp .ge 15, 3) := by decide +kernel
theorem dX7_reads_21 : decode cX7_reads 21 = .ok (.aload_n 0, 1) := by decide +kernel
theorem dX7_reads_22 : decode cX7_reads 22 = .ok (.invokevirtual 177, 3) := by decide +kernel
theorem dX7_reads_25 : decode cX7_reads 25 = .ok (.ifCond .ne (-15), 3) := by decide +kernel
theorem dX7_reads_28 : decode cX7_reads 28 = .ok (.aload_n 0, 1) := by decide +kernel
theorem dX7_reads_29 : decode cX7_reads 29 = .ok (.getfield 165, 3) := by decide +kernel
theorem dX7_reads_32 : decode cX7_reads 32 = .ok (.ireturn, 1) := by decide +kernel
theorem dX7_reads_33 : decode cX7_reads 33 = .ok (.ldc 149, 2) := by decide +kernel
theorem dX7_reads_35 : decode cX7_reads 35 = .ok (.ireturn, 1) := by decide +kernel
theorem dX7_faulty_0 : decode cX7_faulty 0 = .ok (.iconst 0, 1) := by decide +kernel
theorem dX7_faulty_1 : decode cX7_faulty 1 = .ok (.istore_n 1, 1) := by decide +kernel
theorem dX7_faulty_2 : decode cX7_faulty 2 = .ok (.iload_n 1, 1) := by decide +kernel
theorem dX7_faulty_3 : decode cX7_faulty 3 = .ok (.bipush 38, 2) := by decide +kernel
theorem dX7_faulty_5 : decode cX7_faulty 5 = .ok (.if_icmp .ge 21, 3) := by decide +kernel
theorem dX7_faulty_8 : decode cX7_faulty 8 = .ok (.aload_n 0, 1) := by decide +kernel
theorem dX7_faulty_9 : decode cX7_faulty 9 = .ok (.getfield 19, 3) := by decide +kernel
theorem dX7_faulty_12 : decode cX7_faulty 12 = .ok (.iload_n 1, 1) := by decide +kernel
theorem dX7_faulty_13 : decode cX7_faulty 13 = .ok (.aload_n 0, 1) := by decide +kernel
theorem dX7_faulty_14 : decode cX7_faulty 14 = .ok (.getfield 7, 3) := by decide +kernel
theorem dX7_faulty_17 : decode cX7_faulty 17 = .ok (.iload_n 1, 1) := by decide +kernel
theorem dX7_faulty_18 : decode cX7_faulty 18 = .ok (.iaload, 1) := by decide +kernel
theorem dX7_faulty_19 : decode cX7_faulty 19 = .ok (.iastore, 1) := by decide +kernel
theorem dX7_faulty_20 : decode cX7_faulty 20 = .ok (.iinc 1 1, 3) := by decide +kernel
theorem dX7_faulty_23 : decode cX7_faulty 23 = .ok (.goto (-21), 3) := by decide +kernel
theorem dX7_faulty_26 : decode cX7_faulty 26 = .ok (.aload_n 0, 1) := by decide +kernel
theorem dX7_faulty_27 : decode cX7_faulty 27 = .ok (.invokevirtual 180, 3) := by decide +kernel
theorem dX7_faulty_30 : decode cX7_faulty 30 = .ok (.istore_n 1, 1) := by decide +kernel
theorem dX7_faulty_31 : decode cX7_faulty 31 = .ok (.iconst 0, 1) := by decide +kernel
theorem dX7_faulty_32 : decode cX7_faulty 32 = .ok (.istore_n 2, 1) := by decide +kernel
theorem dX7_faulty_33 : decode cX7_faulty 33 = .ok (.iload_n 2, 1) := by decide +kernel
theorem dX7_faulty_34 : decode cX7_faulty 34 = .ok (.bipush 38, 2) := by decide +kernel
theorem dX7_faulty_36 : decode cX7_faulty 36 = .ok (.if_icmp .ge 21, 3) := by decide +kernel
theorem dX7_faulty_39 : decode cX7_faulty 39 = .ok (.aload_n 0, 1) := by decide +kernel
theorem dX7_faulty_40 : decode cX7_faulty 40 = .ok (.getfield 7, 3) := by decide +kernel
theorem dX7_faulty_43 : decode cX7_faulty 43 = .ok (.iload_n 2, 1) := by decide +kernel
theorem dX7_faulty_44 : decode cX7_faulty 44 = .ok (.aload_n 0, 1) := by decide +kernel
theorem dX7_faulty_45 : decode cX7_faulty 45 = .ok (.getfield 19, 3) := by decide +kernel
theorem dX7_faulty_48 : decode cX7_faulty 48 = .ok (.iload_n 2, 1) := by decide +kernel
theorem dX7_faulty_49 : decode cX7_faulty 49 = .ok (.iaload, 1) := by decide +kernel
theorem dX7_faulty_50 : decode cX7_faulty 50 = .ok (.iastore, 1) := by decide +kernel
theorem dX7_faulty_51 : decode cX7_faulty 51 = .ok (.iinc 2 1, 3) := by decide +kernel
theorem dX7_faulty_54 : decode cX7_faulty 54 = .ok (.goto (-21), 3) := by decide +kernel
theorem dX7_faulty_57 : decode cX7_faulty 57 = .ok (.iload_n 1, 1) := by decide +kernel
theorem dX7_faulty_58 : decode cX7_faulty 58 = .ok (.ireturn, 1) := by decide +kernel
theorem dX7_fault_0 : decode cX7_fault 0 = .ok (.iload_n 1, 1) := by decide +kernel
theorem dX7_fault_1 : decode cX7_fault 1 = .ok (.iconst 0, 1) := by decide +kernel
theorem dX7_fault_2 : decode cX7_fault 2 = .ok (.iconst 1, 1) := by decide +kernel
theorem dX7_fault_3 : decode cX7_fault 3 = .ok (.invokestatic 50, 3) := by decide +kernel
theorem dX7_fault_6 : decode cX7_fault 6 = .ok (.ifCond .ne 6, 3) := by decide +kernel
theorem dX7_fault_9 : decode cX7_fault 9 = .ok (.ldc 54, 2) := by decide +kernel
theorem dX7_fault_11 : decode cX7_fault 11 = .ok (.ireturn, 1) := by decide +kernel
theorem dX7_fault_12 : decode cX7_fault 12 = .ok (.aload_n 0, 1) := by decide +kernel
theorem dX7_fault_13 : decode cX7_fault 13 = .ok (.invokevirtual 183, 3) := by decide +kernel
theorem dX7_fault_16 : decode cX7_fault 16 = .ok (.istore_n 2, 1) := by decide +kernel
theorem dX7_fault_17 : decode cX7_fault 17 = .ok (.iload_n 2, 1) := by decide +kernel
theorem dX7_fault_18 : decode cX7_fault 18 = .ok (.ldc 149, 2) := by decide +kernel
theorem dX7_fault_20 : decode cX7_fault 20 = .ok (.if_icmp .eq 7, 3) := by decide +kernel
theorem dX7_fault_23 : decode cX7_fault 23 = .ok (.iload_n 1, 1) := by decide +kernel
theorem dX7_fault_24 : decode cX7_fault 24 = .ok (.ifCond .ne 7, 3) := by decide +kernel
theorem dX7_fault_27 : decode cX7_fault 27 = .ok (.iload_n 2, 1) := by decide +kernel
theorem dX7_fault_28 : decode cX7_fault 28 = .ok (.goto 7, 3) := by decide +kernel
theorem dX7_fault_31 : decode cX7_fault 31 = .ok (.aload_n 0, 1) := by decide +kernel
theorem dX7_fault_32 : decode cX7_fault 32 = .ok (.getfield 171, 3) := by decide +kernel
theorem dX7_fault_35 : decode cX7_fault 35 = .ok (.ireturn, 1) := by decide +kernel
theorem dX7_play_0 : decode cX7_play 0 = .ok (.aload_n 0, 1) := by decide +kernel
theorem dX7_play_1 : decode cX7_play 1 = .ok (.invokevirtual 183, 3) := by decide +kernel
theorem dX7_play_4 : decode cX7_play 4 = .ok (.ldc 149, 2) := by decide +kernel
theorem dX7_play_6 : decode cX7_play 6 = .ok (.if_icmp .eq 6, 3) := by decide +kernel
theorem dX7_play_9 : decode cX7_play 9 = .ok (.ldc 115, 2) := by decide +kernel
theorem dX7_play_11 : decode cX7_play 11 = .ok (.ireturn, 1) := by decide +kernel
theorem dX7_play_12 : decode cX7_play 12 = .ok (.aload_n 0, 1) := by decide +kernel
theorem dX7_play_13 : decode cX7_play 13 = .ok (.invokevirtual 92, 3) := by decide +kernel
theorem dX7_play_16 : decode cX7_play 16 = .ok (.aload_n 0, 1) := by decide +kernel
theorem dX7_play_17 : decode cX7_play 17 = .ok (.invokevirtual 180, 3) := by decide +kernel
theorem dX7_play_20 : decode cX7_play 20 = .ok (.pop, 1) := by decide +kernel
theorem dX7_play_21 : decode cX7_play 21 = .ok (.aload_n 0, 1) := by decide +kernel
theorem dX7_play_22 : decode cX7_play 22 = .ok (.aload_n 0, 1) := by decide +kernel
theorem dX7_play_23 : decode cX7_play 23 = .ok (.getfield 174, 3) := by decide +kernel
theorem dX7_play_26 : decode cX7_play 26 = .ok (.invokevirtual 95, 3) := by decide +kernel
theorem dX7_play_29 : decode cX7_play 29 = .ok (.ireturn, 1) := by decide +kernel
theorem dJ6_bitCount_0f7a4_0 : decode cJ6_bitCount_0f7a4 0 = .ok (.iload_n 0, 1) := by decide +kernel
theorem dJ6_bitCount_0f7a4_1 : decode cJ6_bitCount_0f7a4 1 = .ok (.iload_n 0, 1) := by decide +kernel
theorem dJ6_bitCount_0f7a4_2 : decode cJ6_bitCount_0f7a4 2 = .ok (.iconst 1, 1) := by decide +kernel
theorem dJ6_bitCount_0f7a4_3 : decode cJ6_bitCount_0f7a4 3 = .ok (.iushr, 1) := by decide +kernel
theorem dJ6_bitCount_0f7a4_4 : decode cJ6_bitCount_0f7a4 4 = .ok (.ldc_w 265, 3) := by decide +kernel
theorem dJ6_bitCount_0f7a4_7 : decode cJ6_bitCount_0f7a4 7 = .ok (.iand, 1) := by decide +kernel
theorem dJ6_bitCount_0f7a4_8 : decode cJ6_bitCount_0f7a4 8 = .ok (.isub, 1) := by decide +kernel
theorem dJ6_bitCount_0f7a4_9 : decode cJ6_bitCount_0f7a4 9 = .ok (.istore_n 0, 1) := by decide +kernel
theorem dJ6_bitCount_0f7a4_10 : decode cJ6_bitCount_0f7a4 10 = .ok (.iload_n 0, 1) := by decide +kernel
theorem dJ6_bitCount_0f7a4_11 : decode cJ6_bitCount_0f7a4 11 = .ok (.ldc_w 266, 3) := by decide +kernel
theorem dJ6_bitCount_0f7a4_14 : decode cJ6_bitCount_0f7a4 14 = .ok (.iand, 1) := by decide +kernel
theorem dJ6_bitCount_0f7a4_15 : decode cJ6_bitCount_0f7a4 15 = .ok (.iload_n 0, 1) := by decide +kernel
theorem dJ6_bitCount_0f7a4_16 : decode cJ6_bitCount_0f7a4 16 = .ok (.iconst 2, 1) := by decide +kernel
theorem dJ6_bitCount_0f7a4_17 : decode cJ6_bitCount_0f7a4 17 = .ok (.iushr, 1) := by decide +kernel
theorem dJ6_bitCount_0f7a4_18 : decode cJ6_bitCount_0f7a4 18 = .ok (.ldc_w 266, 3) := by decide +kernel
theorem dJ6_bitCount_0f7a4_21 : decode cJ6_bitCount_0f7a4 21 = .ok (.iand, 1) := by decide +kernel
theorem dJ6_bitCount_0f7a4_22 : decode cJ6_bitCount_0f7a4 22 = .ok (.iadd, 1) := by decide +kernel
theorem dJ6_bitCount_0f7a4_23 : decode cJ6_bitCount_0f7a4 23 = .ok (.istore_n 0, 1) := by decide +kernel
theorem dJ6_bitCount_0f7a4_24 : decode cJ6_bitCount_0f7a4 24 = .ok (.iload_n 0, 1) := by decide +kernel
theorem dJ6_bitCount_0f7a4_25 : decode cJ6_bitCount_0f7a4 25 = .ok (.iload_n 0, 1) := by decide +kernel
theorem dJ6_bitCount_0f7a4_26 : decode cJ6_bitCount_0f7a4 26 = .ok (.iconst 4, 1) := by decide +kernel
theorem dJ6_bitCount_0f7a4_27 : decode cJ6_bitCount_0f7a4 27 = .ok (.iushr, 1) := by decide +kernel
theorem dJ6_bitCount_0f7a4_28 : decode cJ6_bitCount_0f7a4 28 = .ok (.iadd, 1) := by decide +kernel
theorem dJ6_bitCount_0f7a4_29 : decode cJ6_bitCount_0f7a4 29 = .ok (.ldc_w 267, 3) := by decide +kernel
theorem dJ6_bitCount_0f7a4_32 : decode cJ6_bitCount_0f7a4 32 = .ok (.iand, 1) := by decide +kernel
theorem dJ6_bitCount_0f7a4_33 : decode cJ6_bitCount_0f7a4 33 = .ok (.istore_n 0, 1) := by decide +kernel
theorem dJ6_bitCount_0f7a4_34 : decode cJ6_bitCount_0f7a4 34 = .ok (.iload_n 0, 1) := by decide +kernel
theorem dJ6_bitCount_0f7a4_35 : decode cJ6_bitCount_0f7a4 35 = .ok (.iload_n 0, 1) := by decide +kernel
theorem dJ6_bitCount_0f7a4_36 : decode cJ6_bitCount_0f7a4 36 = .ok (.bipush 8, 2) := by decide +kernel
theorem dJ6_bitCount_0f7a4_38 : decode cJ6_bitCount_0f7a4 38 = .ok (.iushr, 1) := by decide +kernel
theorem dJ6_bitCount_0f7a4_39 : decode cJ6_bitCount_0f7a4 39 = .ok (.iadd, 1) := by decide +kernel
theorem dJ6_bitCount_0f7a4_40 : decode cJ6_bitCount_0f7a4 40 = .ok (.istore_n 0, 1) := by decide +kernel
theorem dJ6_bitCount_0f7a4_41 : decode cJ6_bitCount_0f7a4 41 = .ok (.iload_n 0, 1) := by decide +kernel
theorem dJ6_bitCount_0f7a4_42 : decode cJ6_bitCount_0f7a4 42 = .ok (.iload_n 0, 1) := by decide +kernel
theorem dJ6_bitCount_0f7a4_43 : decode cJ6_bitCount_0f7a4 43 = .ok (.bipush 16, 2) := by decide +kernel
theorem dJ6_bitCount_0f7a4_45 : decode cJ6_bitCount_0f7a4 45 = .ok (.iushr, 1) := by decide +kernel
theorem dJ6_bitCount_0f7a4_46 : decode cJ6_bitCount_0f7a4 46 = .ok (.iadd, 1) := by decide +kernel
theorem dJ6_bitCount_0f7a4_47 : decode cJ6_bitCount_0f7a4 47 = .ok (.istore_n 0, 1) := by decide +kernel
theorem dJ6_bitCount_0f7a4_48 : decode cJ6_bitCount_0f7a4 48 = .ok (.iload_n 0, 1) := by decide +kernel
theorem dJ6_bitCount_0f7a4_49 : decode cJ6_bitCount_0f7a4 49 = .ok (.bipush 63, 2) := by decide +kernel
theorem dJ6_bitCount_0f7a4_51 : decode cJ6_bitCount_0f7a4 51 = .ok (.iand, 1) := by decide +kernel
theorem dJ6_bitCount_0f7a4_52 : decode cJ6_bitCount_0f7a4 52 = .ok (.ireturn, 1) := by decide +kernel
theorem dJ9_max_7cf53_0 : decode cJ9_max_7cf53 0 = .ok (.iload_n 0, 1) := by decide +kernel
theorem dJ9_max_7cf53_1 : decode cJ9_max_7cf53 1 = .ok (.iload_n 1, 1) := by decide +kernel
theorem dJ9_max_7cf53_2 : decode cJ9_max_7cf53 2 = .ok (.if_icmp .lt 7, 3) := by decide +kernel
theorem dJ9_max_7cf53_5 : decode cJ9_max_7cf53 5 = .ok (.iload_n 0, 1) := by decide +kernel
theorem dJ9_max_7cf53_6 : decode cJ9_max_7cf53 6 = .ok (.goto 4, 3) := by decide +kernel
theorem dJ9_max_7cf53_9 : decode cJ9_max_7cf53 9 = .ok (.iload_n 1, 1) := by decide +kernel
theorem dJ9_max_7cf53_10 : decode cJ9_max_7cf53 10 = .ok (.ireturn, 1) := by decide +kernel
theorem dL_law_0 : decode cL_law 0 = .ok (.new 7, 3) := by decide +kernel
theorem dL_law_3 : decode cL_law 3 = .ok (.dup, 1) := by decide +kernel
theorem dL_law_4 : decode cL_law 4 = .ok (.invokespecial 9, 3) := by decide +kernel
theorem dL_law_7 : decode cL_law 7 = .ok (.astore_n 1, 1) := by decide +kernel
theorem dL_law_8 : decode cL_law 8 = .ok (.new 10, 3) := by decide +kernel
theorem dL_law_11 : decode cL_law 11 = .ok (.dup, 1) := by decide +kernel
theorem dL_law_12 : decode cL_law 12 = .ok (.invokespecial 12, 3) := by decide +kernel
theorem dL_law_15 : decode cL_law 15 = .ok (.astore_n 2, 1) := by decide +kernel
theorem dL_law_16 : decode cL_law 16 = .ok (.iconst 0, 1) := by decide +kernel
theorem dL_law_17 : decode cL_law 17 = .ok (.istore_n 3, 1) := by decide +kernel
theorem dL_law_18 : decode cL_law 18 = .ok (.iload_n 3, 1) := by decide +kernel
theorem dL_law_19 : decode cL_law 19 = .ok (.aload_n 0, 1) := by decide +kernel
theorem dL_law_20 : decode cL_law 20 = .ok (.arraylength, 1) := by decide +kernel
theorem dL_law_21 : decode cL_law 21 = .ok (.iconst 4, 1) := by decide +kernel
theorem dL_law_22 : decode cL_law 22 = .ok (.isub, 1) := by decide +kernel
theorem dL_law_23 : decode cL_law 23 = .ok (.if_icmp .gt 728, 3) := by decide +kernel
theorem dL_law_26 : decode cL_law 26 = .ok (.aload_n 0, 1) := by decide +kernel
theorem dL_law_27 : decode cL_law 27 = .ok (.iload_n 3, 1) := by decide +kernel
theorem dL_law_28 : decode cL_law 28 = .ok (.iaload, 1) := by decide +kernel
theorem dL_law_29 : decode cL_law 29 = .ok (.bipush 31, 2) := by decide +kernel
theorem dL_law_31 : decode cL_law 31 = .ok (.iand, 1) := by decide +kernel
theorem dL_law_32 : decode cL_law 32 = .ok (.tableswitch 713 0 20 #[100, 143, 186, 219, 252, 285, 318, 351, 384, 407, 440, 473, 506, 529, 572, 605, 628, 641, 664, 677, 700], 100) := by decide +kernel
theorem dL_law_132 : decode cL_law 132 = .ok (.aload_n 1, 1) := by decide +kernel
theorem dL_law_133 : decode cL_law 133 = .ok (.aload_n 0, 1) := by decide +kernel
theorem dL_law_134 : decode cL_law 134 = .ok (.iload_n 3, 1) := by decide +kernel
theorem dL_law_135 : decode cL_law 135 = .ok (.iconst 1, 1) := by decide +kernel
theorem dL_law_136 : decode cL_law 136 = .ok (.iadd, 1) := by decide +kernel
theorem dL_law_137 : decode cL_law 137 = .ok (.iaload, 1) := by decide +kernel
theorem dL_law_138 : decode cL_law 138 = .ok (.aload_n 0, 1) := by decide +kernel
theorem dL_law_139 : decode cL_law 139 = .ok (.iload_n 3, 1) := by decide +kernel
theorem dL_law_140 : decode cL_law 140 = .ok (.iconst 2, 1) := by decide +kernel
theorem dL_law_141 : decode cL_law 141 = .ok (.iadd, 1) := by decide +kernel
theorem dL_law_142 : decode cL_law 142 = .ok (.iaload, 1) := by decide +kernel
theorem dL_law_143 : decode cL_law 143 = .ok (.aload_n 0, 1) := by decide +kernel
theorem dL_law_144 : decode cL_law 144 = .ok (.iload_n 3, 1) := by decide +kernel
theorem dL_law_145 : decode cL_law 145 = .ok (.iconst 3, 1) := by decide +kernel
theorem dL_law_146 : decode cL_law 146 = .ok (.iadd, 1) := by decide +kernel
theorem dL_law_147 : decode cL_law 147 = .ok (.iaload, 1) := by decide +kernel
theorem dL_law_148 : decode cL_law 148 = .ok (.invokevirtual 13, 3) := by decide +kernel
theorem dL_law_151 : decode cL_law 151 = .ok (.aload_n 2, 1) := by decide +kernel
theorem dL_law_152 : decode cL_law 152 = .ok (.aload_n 0, 1) := by decide +kernel
theorem dL_law_153 : decode cL_law 153 = .ok (.iload_n 3, 1) := by decide +kernel
theorem dL_law_154 : decode cL_law 154 = .ok (.iconst 1, 1) := by decide +kernel
theorem dL_law_155 : decode cL_law 155 = .ok (.iadd, 1) := by decide +kernel
theorem dL_law_156 : decode cL_law 156 = .ok (.iaload, 1) := by decide +kernel
theorem dL_law_157 : decode cL_law 157 = .ok (.aload_n 0, 1) := by decide +kernel
theorem dL_law_158 : decode cL_law 158 = .ok (.iload_n 3, 1) := by decide +kernel
theorem dL_law_159 : decode cL_law 159 = .ok (.iconst 2, 1) := by decide +kernel
theorem dL_law_160 : decode cL_law 160 = .ok (.iadd, 1) := by decide +kernel
theorem dL_law_161 : decode cL_law 161 = .ok (.iaload, 1) := by decide +kernel
theorem dL_law_162 : decode cL_law 162 = .ok (.aload_n 0, 1) := by decide +kernel
theorem dL_law_163 : decode cL_law 163 = .ok (.iload_n 3, 1) := by decide +kernel
theorem dL_law_164 : decode cL_law 164 = .ok (.iconst 3, 1) := by decide +kernel
theorem dL_law_165 : decode cL_law 165 = .ok (.iadd, 1) := by decide +kernel
theorem dL_law_166 : decode cL_law 166 = .ok (.iaload, 1) := by decide +kernel
theorem dL_law_167 : decode cL_law 167 = .ok (.invokevirtual 17, 3) := by decide +kernel
theorem dL_law_170 : decode cL_law 170 = .ok (.if_icmp .eq 575, 3) := by decide +kernel
theorem dL_law_173 : decode cL_law 173 = .ok (.iconst 0, 1) := by decide +kernel
theorem dL_law_174 : decode cL_law 174 = .ok (.ireturn, 1) := by decide +kernel
theorem dL_law_175 : decode cL_law 175 = .ok (.aload_n 1, 1) := by decide +kernel
theorem dL_law_176 : decode cL_law 176 = .ok (.aload_n 0, 1) := by decide +kernel
theorem dL_law_177 : decode cL_law 177 = .ok (.iload_n 3, 1) := by decide +kernel
theorem dL_law_178 : decode cL_law 178 = .ok (.iconst 1, 1) := by decide +kernel
theorem dL_law_179 : decode cL_law 179 = .ok (.iadd, 1) := by decide +kernel
theorem dL_law_180 : decode cL_law 180 = .ok (.iaload, 1) := by decide +kernel
theorem dL_law_181 : decode cL_law 181 = .ok (.aload_n 0, 1) := by decide +kernel
theorem dL_law_182 : decode cL_law 182 = .ok (.iload_n 3, 1) := by decide +kernel
theorem dL_law_183 : decode cL_law 183 = .ok (.iconst 2, 1) := by decide +kernel
theorem dL_law_184 : decode cL_law 184 = .ok (.iadd, 1) := by decide +kernel
theorem dL_law_185 : decode cL_law 185 = .ok (.iaload, 1) := by decide +kernel
theorem dL_law_186 : decode cL_law 186 = .ok (.aload_n 0, 1) := by decide +kernel
theorem dL_law_187 : decode cL_law 187 = .ok (.iload_n 3, 1) := by decide +kernel
theorem dL_law_188 : decode cL_law 188 = .ok (.iconst 3, 1) := by decide +kernel
theorem dL_law_189 : decode cL_law 189 = .ok (.iadd, 1) := by decide +kernel
theorem dL_law_190 : decode cL_law 190 = .ok (.iaload, 1) := by decide +kernel
theorem dL_law_191 : decode cL_law 191 = .ok (.invokevirtual 18, 3) := by decide +kernel
theorem dL_law_194 : decode cL_law 194 = .ok (.aload_n 2, 1) := by decide +kernel
theorem dL_law_195 : decode cL_law 195 = .ok (.aload_n 0, 1) := by decide +kernel
theorem dL_law_196 : decode cL_law 196 = .ok (.iload_n 3, 1) := by decide +kernel
theorem dL_law_197 : decode cL_law 197 = .ok (.iconst 1, 1) := by decide +kernel
theorem dL_law_198 : decode cL_law 198 = .ok (.iadd, 1) := by decide +kernel
theorem dL_law_199 : decode cL_law 199 = .ok (.iaload, 1) := by decide +kernel
theorem dL_law_200 : decode cL_law 200 = .ok (.aload_n 0, 1) := by decide +kernel
theorem dL_law_201 : decode cL_law 201 = .ok (.iload_n 3, 1) := by decide +kernel
theorem dL_law_202 : decode cL_law 202 = .ok (.iconst 2, 1) := by decide +kernel
theorem dL_law_203 : decode cL_law 203 = .ok (.iadd, 1) := by decide +kernel
theorem dL_law_204 : decode cL_law 204 = .ok (.iaload, 1) := by decide +kernel
theorem dL_law_205 : decode cL_law 205 = .ok (.aload_n 0, 1) := by decide +kernel
theorem dL_law_206 : decode cL_law 206 = .ok (.iload_n 3, 1) := by decide +kernel
theorem dL_law_207 : decode cL_law 207 = .ok (.iconst 3, 1) := by decide +kernel
theorem dL_law_208 : decode cL_law 208 = .ok (.iadd, 1) := by decide +kernel
theorem dL_law_209 : decode cL_law 209 = .ok (.iaload, 1) := by decide +kernel
theorem dL_law_210 : decode cL_law 210 = .ok (.invokevirtual 21, 3) := by decide +kernel
theorem dL_law_213 : decode cL_law 213 = .ok (.if_icmp .eq 532, 3) := by decide +kernel
theorem dL_law_216 : decode cL_law 216 = .ok (.iconst 0, 1) := by decide +kernel
theorem dL_law_217 : decode cL_law 217 = .ok (.ireturn, 1) := by decide +kernel
theorem dL_law_218 : decode cL_law 218 = .ok (.aload_n 1, 1) := by decide +kernel
theorem dL_law_219 : decode cL_law 219 = .ok (.aload_n 0, 1) := by decide +kernel
theorem dL_law_220 : decode cL_law 220 = .ok (.iload_n 3, 1) := by decide +kernel
theorem dL_law_221 : decode cL_law 221 = .ok (.iconst 1, 1) := by decide +kernel
theorem dL_law_222 : decode cL_law 222 = .ok (.iadd, 1) := by decide +kernel
theorem dL_law_223 : decode cL_law 223 = .ok (.iaload, 1) := by decide +kernel
theorem dL_law_224 : decode cL_law 224 = .ok (.aload_n 0, 1) := by decide +kernel
theorem dL_law_225 : decode cL_law 225 = .ok (.iload_n 3, 1) := by decide +kernel
theorem dL_law_226 : decode cL_law 226 = .ok (.iconst 2, 1) := by decide +kernel
theorem dL_law_227 : decode cL_law 227 = .ok (.iadd, 1) := by decide +kernel
theorem dL_law_228 : decode cL_law 228 = .ok (.iaload, 1) := by decide +kernel
theorem dL_law_229 : decode cL_law 229 = .ok (.invokevirtual 22, 3) := by decide +kernel
theorem dL_law_232 : decode cL_law 232 = .ok (.aload_n 2, 1) := by decide +kernel
theorem dL_law_233 : decode cL_law 233 = .ok (.aload_n 0, 1) := by decide +kernel
theorem dL_law_234 : decode cL_law 234 = .ok (.iload_n 3, 1) := by decide +kernel
theorem dL_law_235 : decode cL_law 235 = .ok (.iconst 1, 1) := by decide +kernel
theorem dL_law_236 : decode cL_law 236 = .ok (.iadd, 1) := by decide +kernel
theorem dL_law_237 : decode cL_law 237 = .ok (.iaload, 1) := by decide +kernel
theorem dL_law_238 : decode cL_law 238 = .ok (.aload_n 0, 1) := by decide +kernel
theorem dL_law_239 : decode cL_law 239 = .ok (.iload_n 3, 1) := by decide +kernel
theorem dL_law_240 : decode cL_law 240 = .ok (.iconst 2, 1) := by decide +kernel
theorem dL_law_241 : decode cL_law 241 = .ok (.iadd, 1) := by decide +kernel
theorem dL_law_242 : decode cL_law 242 = .ok (.iaload, 1) := by decide +kernel
theorem dL_law_243 : decode cL_law 243 = .ok (.invokevirtual 26, 3) := by decide +kernel
theorem dL_law_246 : decode cL_law 246 = .ok (.if_icmp .eq 499, 3) := by decide +kernel
theorem dL_law_249 : decode cL_law 249 = .ok (.iconst 0, 1) := by decide +kernel
theorem dL_law_250 : decode cL_law 250 = .ok (.ireturn, 1) := by decide +kernel
theorem dL_law_251 : decode cL_law 251 = .ok (.aload_n 1, 1) := by decide +kernel
theorem dL_law_252 : decode cL_law 252 = .ok (.aload_n 0, 1) := by decide +kernel
theorem dL_law_253 : decode cL_law 253 = .ok (.iload_n 3, 1) := by decide +kernel
theorem dL_law_254 : decode cL_law 254 = .ok (.iconst 1, 1) := by decide +kernel
theorem dL_law_255 : decode cL_law 255 = .ok (.iadd, 1) := by decide +kernel
theorem dL_law_256 : decode cL_law 256 = .ok (.iaload, 1) := by decide +kernel
theorem dL_law_257 : decode cL_law 257 = .ok (.aload_n 0, 1) := by decide +kernel
theorem dL_law_258 : decode cL_law 258 = .ok (.iload_n 3, 1) := by decide +kernel
theorem dL_law_259 : decode cL_law 259 = .ok (.iconst 2, 1) := by decide +kernel
theorem dL_law_260 : decode cL_law 260 = .ok (.iadd, 1) := by decide +kernel
theorem dL_law_261 : decode cL_law 261 = .ok (.iaload, 1) := by decide +kernel
theorem dL_law_262 : decode cL_law 262 = .ok (.invokevirtual 27, 3) := by decide +kernel
theorem dL_law_265 : decode cL_law 265 = .ok (.aload_n 2, 1) := by decide +kernel
theorem dL_law_266 : decode cL_law 266 = .ok (.aload_n 0, 1) := by decide +kernel
theorem dL_law_267 : decode cL_law 267 = .ok (.iload_n 3, 1) := by decide +kernel
theorem dL_law_268 : decode cL_law 268 = .ok (.iconst 1, 1) := by decide +kernel
theorem dL_law_269 : decode cL_law 269 = .ok (.iadd, 1) := by decide +kernel
theorem dL_law_270 : decode cL_law 270 = .ok (.iaload, 1) := by decide +kernel
theorem dL_law_271 : decode cL_law 271 = .ok (.aload_n 0, 1) := by decide +kernel
theorem dL_law_272 : decode cL_law 272 = .ok (.iload_n 3, 1) := by decide +kernel
theorem dL_law_273 : decode cL_law 273 = .ok (.iconst 2, 1) := by decide +kernel
theorem dL_law_274 : decode cL_law 274 = .ok (.iadd, 1) := by decide +kernel
theorem dL_law_275 : decode cL_law 275 = .ok (.iaload, 1) := by decide +kernel
theorem dL_law_276 : decode cL_law 276 = .ok (.invokevirtual 30, 3) := by decide +kernel
theorem dL_law_279 : decode cL_law 279 = .ok (.if_icmp .eq 466, 3) := by decide +kernel
theorem dL_law_282 : decode cL_law 282 = .ok (.iconst 0, 1) := by decide +kernel
theorem dL_law_283 : decode cL_law 283 = .ok (.ireturn, 1) := by decide +kernel
theorem dL_law_284 : decode cL_law 284 = .ok (.aload_n 1, 1) := by decide +kernel
theorem dL_law_285 : decode cL_law 285 = .ok (.aload_n 0, 1) := by decide +kernel
theorem dL_law_286 : decode cL_law 286 = .ok (.iload_n 3, 1) := by decide +kernel
theorem dL_law_287 : decode cL_law 287 = .ok (.iconst 1, 1) := by decide +kernel
theorem dL_law_288 : decode cL_law 288 = .ok (.iadd, 1) := by decide +kernel
theorem dL_law_289 : decode cL_law 289 = .ok (.iaload, 1) := by decide +kernel
theorem dL_law_290 : decode cL_law 290 = .ok (.aload_n 0, 1) := by decide +kernel
theorem dL_law_291 : decode cL_law 291 = .ok (.iload_n 3, 1) := by decide +kernel
theorem dL_law_292 : decode cL_law 292 = .ok (.iconst 2, 1) := by decide +kernel
theorem dL_law_293 : decode cL_law 293 = .ok (.iadd, 1) := by decide +kernel
theorem dL_law_294 : decode cL_law 294 = .ok (.iaload, 1) := by decide +kernel
theorem dL_law_295 : decode cL_law 295 = .ok (.invokevirtual 31, 3) := by decide +kernel
theorem dL_law_298 : decode cL_law 298 = .ok (.aload_n 2, 1) := by decide +kernel
theorem dL_law_299 : decode cL_law 299 = .ok (.aload_n 0, 1) := by decide +kernel
theorem dL_law_300 : decode cL_law 300 = .ok (.iload_n 3, 1) := by decide +kernel
theorem dL_law_301 : decode cL_law 301 = .ok (.iconst 1, 1) := by decide +kernel
theorem dL_law_302 : decode cL_law 302 = .ok (.iadd, 1) := by decide +kernel
theorem dL_law_303 : decode cL_law 303 = .ok (.iaload, 1) := by decide +kernel
theorem dL_law_304 : decode cL_law 304 = .ok (.aload_n 0, 1) := by decide +kernel
theorem dL_law_305 : decode cL_law 305 = .ok (.iload_n 3, 1) := by decide +kernel
theorem dL_law_306 : decode cL_law 306 = .ok (.iconst 2, 1) := by decide +kernel
theorem dL_law_307 : decode cL_law 307 = .ok (.iadd, 1) := by decide +kernel
theorem dL_law_308 : decode cL_law 308 = .ok (.iaload, 1) := by decide +kernel
theorem dL_law_309 : decode cL_law 309 = .ok (.invokevirtual 34, 3) := by decide +kernel
theorem dL_law_312 : decode cL_law 312 = .ok (.if_icmp .eq 433, 3) := by decide +kernel
theorem dL_law_315 : decode cL_law 315 = .ok (.iconst 0, 1) := by decide +kernel
theorem dL_law_316 : decode cL_law 316 = .ok (.ireturn, 1) := by decide +kernel
theorem dL_law_317 : decode cL_law 317 = .ok (.aload_n 1, 1) := by decide +kernel
theorem dL_law_318 : decode cL_law 318 = .ok (.aload_n 0, 1) := by decide +kernel
theorem dL_law_319 : decode cL_law 319 = .ok (.iload_n 3, 1) := by decide +kernel
theorem dL_law_320 : decode cL_law 320 = .ok (.iconst 1, 1) := by decide +kernel
theorem dL_law_321 : decode cL_law 321 = .ok (.iadd, 1) := by decide +kernel
theorem dL_law_322 : decode cL_law 322 = .ok (.iaload, 1) := by decide +kernel
theorem dL_law_323 : decode cL_law 323 = .ok (.aload_n 0, 1) := by decide +kernel
theorem dL_law_324 : decode cL_law 324 = .ok (.iload_n 3, 1) := by decide +kernel
theorem dL_law_325 : decode cL_law 325 = .ok (.iconst 2, 1) := by decide +kernel
theorem dL_law_326 : decode cL_law 326 = .ok (.iadd, 1) := by decide +kernel
theorem dL_law_327 : decode cL_law 327 = .ok (.iaload, 1) := by decide +kernel
theorem dL_law_328 : decode cL_law 328 = .ok (.invokevirtual 35, 3) := by decide +kernel
theorem dL_law_331 : decode cL_law 331 = .ok (.aload_n 2, 1) := by decide +kernel
theorem dL_law_332 : decode cL_law 332 = .ok (.aload_n 0, 1) := by decide +kernel
theorem dL_law_333 : decode cL_law 333 = .ok (.iload_n 3, 1) := by decide +kernel
theorem dL_law_334 : decode cL_law 334 = .ok (.iconst 1, 1) := by decide +kernel
theorem dL_law_335 : decode cL_law 335 = .ok (.iadd, 1) := by decide +kernel
theorem dL_law_336 : decode cL_law 336 = .ok (.iaload, 1) := by decide +kernel
theorem dL_law_337 : decode cL_law 337 = .ok (.aload_n 0, 1) := by decide +kernel
theorem dL_law_338 : decode cL_law 338 = .ok (.iload_n 3, 1) := by decide +kernel
theorem dL_law_339 : decode cL_law 339 = .ok (.iconst 2, 1) := by decide +kernel
theorem dL_law_340 : decode cL_law 340 = .ok (.iadd, 1) := by decide +kernel
theorem dL_law_341 : decode cL_law 341 = .ok (.iaload, 1) := by decide +kernel
theorem dL_law_342 : decode cL_law 342 = .ok (.invokevirtual 38, 3) := by decide +kernel
theorem dL_law_345 : decode cL_law 345 = .ok (.if_icmp .eq 400, 3) := by decide +kernel
theorem dL_law_348 : decode cL_law 348 = .ok (.iconst 0, 1) := by decide +kernel
theorem dL_law_349 : decode cL_law 349 = .ok (.ireturn, 1) := by decide +kernel
theorem dL_law_350 : decode cL_law 350 = .ok (.aload_n 1, 1) := by decide +kernel
theorem dL_law_351 : decode cL_law 351 = .ok (.aload_n 0, 1) := by decide +kernel
theorem dL_law_352 : decode cL_law 352 = .ok (.iload_n 3, 1) := by decide +kernel
theorem dL_law_353 : decode cL_law 353 = .ok (.iconst 1, 1) := by decide +kernel
theorem dL_law_354 : decode cL_law 354 = .ok (.iadd, 1) := by decide +kernel
theorem dL_law_355 : decode cL_law 355 = .ok (.iaload, 1) := by decide +kernel
theorem dL_law_356 : decode cL_law 356 = .ok (.aload_n 0, 1) := by decide +kernel
theorem dL_law_357 : decode cL_law 357 = .ok (.iload_n 3, 1) := by decide +kernel
theorem dL_law_358 : decode cL_law 358 = .ok (.iconst 2, 1) := by decide +kernel
theorem dL_law_359 : decode cL_law 359 = .ok (.iadd, 1) := by decide +kernel
theorem dL_law_360 : decode cL_law 360 = .ok (.iaload, 1) := by decide +kernel
theorem dL_law_361 : decode cL_law 361 = .ok (.invokevirtual 39, 3) := by decide +kernel
theorem dL_law_364 : decode cL_law 364 = .ok (.aload_n 2, 1) := by decide +kernel
theorem dL_law_365 : decode cL_law 365 = .ok (.aload_n 0, 1) := by decide +kernel
theorem dL_law_366 : decode cL_law 366 = .ok (.iload_n 3, 1) := by decide +kernel
theorem dL_law_367 : decode cL_law 367 = .ok (.iconst 1, 1) := by decide +kernel
theorem dL_law_368 : decode cL_law 368 = .ok (.iadd, 1) := by decide +kernel
theorem dL_law_369 : decode cL_law 369 = .ok (.iaload, 1) := by decide +kernel
theorem dL_law_370 : decode cL_law 370 = .ok (.aload_n 0, 1) := by decide +kernel
theorem dL_law_371 : decode cL_law 371 = .ok (.iload_n 3, 1) := by decide +kernel
theorem dL_law_372 : decode cL_law 372 = .ok (.iconst 2, 1) := by decide +kernel
theorem dL_law_373 : decode cL_law 373 = .ok (.iadd, 1) := by decide +kernel
theorem dL_law_374 : decode cL_law 374 = .ok (.iaload, 1) := by decide +kernel
theorem dL_law_375 : decode cL_law 375 = .ok (.invokevirtual 42, 3) := by decide +kernel
theorem dL_law_378 : decode cL_law 378 = .ok (.if_icmp .eq 367, 3) := by decide +kernel
theorem dL_law_381 : decode cL_law 381 = .ok (.iconst 0, 1) := by decide +kernel
theorem dL_law_382 : decode cL_law 382 = .ok (.ireturn, 1) := by decide +kernel
theorem dL_law_383 : decode cL_law 383 = .ok (.aload_n 1, 1) := by decide +kernel
theorem dL_law_384 : decode cL_law 384 = .ok (.aload_n 0, 1) := by decide +kernel
theorem dL_law_385 : decode cL_law 385 = .ok (.iload_n 3, 1) := by decide +kernel
theorem dL_law_386 : decode cL_law 386 = .ok (.iconst 1, 1) := by decide +kernel
theorem dL_law_387 : decode cL_law 387 = .ok (.iadd, 1) := by decide +kernel
theorem dL_law_388 : decode cL_law 388 = .ok (.iaload, 1) := by decide +kernel
theorem dL_law_389 : decode cL_law 389 = .ok (.aload_n 0, 1) := by decide +kernel
theorem dL_law_390 : decode cL_law 390 = .ok (.iload_n 3, 1) := by decide +kernel
theorem dL_law_391 : decode cL_law 391 = .ok (.iconst 2, 1) := by decide +kernel
theorem dL_law_392 : decode cL_law 392 = .ok (.iadd, 1) := by decide +kernel
theorem dL_law_393 : decode cL_law 393 = .ok (.iaload, 1) := by decide +kernel
theorem dL_law_394 : decode cL_law 394 = .ok (.invokevirtual 43, 3) := by decide +kernel
theorem dL_law_397 : decode cL_law 397 = .ok (.aload_n 2, 1) := by decide +kernel
theorem dL_law_398 : decode cL_law 398 = .ok (.aload_n 0, 1) := by decide +kernel
theorem dL_law_399 : decode cL_law 399 = .ok (.iload_n 3, 1) := by decide +kernel
theorem dL_law_400 : decode cL_law 400 = .ok (.iconst 1, 1) := by decide +kernel
theorem dL_law_401 : decode cL_law 401 = .ok (.iadd, 1) := by decide +kernel
theorem dL_law_402 : decode cL_law 402 = .ok (.iaload, 1) := by decide +kernel
theorem dL_law_403 : decode cL_law 403 = .ok (.aload_n 0, 1) := by decide +kernel
theorem dL_law_404 : decode cL_law 404 = .ok (.iload_n 3, 1) := by decide +kernel
theorem dL_law_405 : decode cL_law 405 = .ok (.iconst 2, 1) := by decide +kernel
theorem dL_law_406 : decode cL_law 406 = .ok (.iadd, 1) := by decide +kernel
theorem dL_law_407 : decode cL_law 407 = .ok (.iaload, 1) := by decide +kernel
theorem dL_law_408 : decode cL_law 408 = .ok (.invokevirtual 46, 3) := by decide +kernel
theorem dL_law_411 : decode cL_law 411 = .ok (.if_icmp .eq 334, 3) := by decide +kernel
theorem dL_law_414 : decode cL_law 414 = .ok (.iconst 0, 1) := by decide +kernel
theorem dL_law_415 : decode cL_law 415 = .ok (.ireturn, 1) := by decide +kernel
theorem dL_law_416 : decode cL_law 416 = .ok (.aload_n 1, 1) := by decide +kernel
theorem dL_law_417 : decode cL_law 417 = .ok (.aload_n 0, 1) := by decide +kernel
theorem dL_law_418 : decode cL_law 418 = .ok (.iload_n 3, 1) := by decide +kernel
theorem dL_law_419 : decode cL_law 419 = .ok (.iconst 1, 1) := by decide +kernel
theorem dL_law_420 : decode cL_law 420 = .ok (.iadd, 1) := by decide +kernel
theorem dL_law_421 : decode cL_law 421 = .ok (.iaload, 1) := by decide +kernel
theorem dL_law_422 : decode cL_law 422 = .ok (.invokevirtual 47, 3) := by decide +kernel
theorem dL_law_425 : decode cL_law 425 = .ok (.aload_n 2, 1) := by decide +kernel
theorem dL_law_426 : decode cL_law 426 = .ok (.aload_n 0, 1) := by decide +kernel
theorem dL_law_427 : decode cL_law 427 = .ok (.iload_n 3, 1) := by decide +kernel
theorem dL_law_428 : decode cL_law 428 = .ok (.iconst 1, 1) := by decide +kernel
theorem dL_law_429 : decode cL_law 429 = .ok (.iadd, 1) := by decide +kernel
theorem dL_law_430 : decode cL_law 430 = .ok (.iaload, 1) := by decide +kernel
theorem dL_law_431 : decode cL_law 431 = .ok (.invokevirtual 51, 3) := by decide +kernel
theorem dL_law_434 : decode cL_law 434 = .ok (.if_icmp .eq 311, 3) := by decide +kernel
theorem dL_law_437 : decode cL_law 437 = .ok (.iconst 0, 1) := by decide +kernel
theorem dL_law_438 : decode cL_law 438 = .ok (.ireturn, 1) := by decide +kernel
theorem dL_law_439 : decode cL_law 439 = .ok (.aload_n 1, 1) := by decide +kernel
theorem dL_law_440 : decode cL_law 440 = .ok (.aload_n 0, 1) := by decide +kernel
theorem dL_law_441 : decode cL_law 441 = .ok (.iload_n 3, 1) := by decide +kernel
theorem dL_law_442 : decode cL_law 442 = .ok (.iconst 1, 1) := by decide +kernel
theorem dL_law_443 : decode cL_law 443 = .ok (.iadd, 1) := by decide +kernel
theorem dL_law_444 : decode cL_law 444 = .ok (.iaload, 1) := by decide +kernel
theorem dL_law_445 : decode cL_law 445 = .ok (.aload_n 0, 1) := by decide +kernel
theorem dL_law_446 : decode cL_law 446 = .ok (.iload_n 3, 1) := by decide +kernel
theorem dL_law_447 : decode cL_law 447 = .ok (.iconst 2, 1) := by decide +kernel
theorem dL_law_448 : decode cL_law 448 = .ok (.iadd, 1) := by decide +kernel
theorem dL_law_449 : decode cL_law 449 = .ok (.iaload, 1) := by decide +kernel
theorem dL_law_450 : decode cL_law 450 = .ok (.invokevirtual 52, 3) := by decide +kernel
theorem dL_law_453 : decode cL_law 453 = .ok (.aload_n 2, 1) := by decide +kernel
theorem dL_law_454 : decode cL_law 454 = .ok (.aload_n 0, 1) := by decide +kernel
theorem dL_law_455 : decode cL_law 455 = .ok (.iload_n 3, 1) := by decide +kernel
theorem dL_law_456 : decode cL_law 456 = .ok (.iconst 1, 1) := by decide +kernel
theorem dL_law_457 : decode cL_law 457 = .ok (.iadd, 1) := by decide +kernel
theorem dL_law_458 : decode cL_law 458 = .ok (.iaload, 1) := by decide +kernel
theorem dL_law_459 : decode cL_law 459 = .ok (.aload_n 0, 1) := by decide +kernel
theorem dL_law_460 : decode cL_law 460 = .ok (.iload_n 3, 1) := by decide +kernel
theorem dL_law_461 : decode cL_law 461 = .ok (.iconst 2, 1) := by decide +kernel
theorem dL_law_462 : decode cL_law 462 = .ok (.iadd, 1) := by decide +kernel
theorem dL_law_463 : decode cL_law 463 = .ok (.iaload, 1) := by decide +kernel
theorem dL_law_464 : decode cL_law 464 = .ok (.invokevirtual 55, 3) := by decide +kernel
theorem dL_law_467 : decode cL_law 467 = .ok (.if_icmp .eq 278, 3) := by decide +kernel
theorem dL_law_470 : decode cL_law 470 = .ok (.iconst 0, 1) := by decide +kernel
theorem dL_law_471 : decode cL_law 471 = .ok (.ireturn, 1) := by decide +kernel
theorem dL_law_472 : decode cL_law 472 = .ok (.aload_n 1, 1) := by decide +kernel
theorem dL_law_473 : decode cL_law 473 = .ok (.aload_n 0, 1) := by decide +kernel
theorem dL_law_474 : decode cL_law 474 = .ok (.iload_n 3, 1) := by decide +kernel
theorem dL_law_475 : decode cL_law 475 = .ok (.iconst 1, 1) := by decide +kernel
theorem dL_law_476 : decode cL_law 476 = .ok (.iadd, 1) := by decide +kernel
theorem dL_law_477 : decode cL_law 477 = .ok (.iaload, 1) := by decide +kernel
theorem dL_law_478 : decode cL_law 478 = .ok (.aload_n 0, 1) := by decide +kernel
theorem dL_law_479 : decode cL_law 479 = .ok (.iload_n 3, 1) := by decide +kernel
theorem dL_law_480 : decode cL_law 480 = .ok (.iconst 2, 1) := by decide +kernel
theorem dL_law_481 : decode cL_law 481 = .ok (.iadd, 1) := by decide +kernel
theorem dL_law_482 : decode cL_law 482 = .ok (.iaload, 1) := by decide +kernel
theorem dL_law_483 : decode cL_law 483 = .ok (.invokevirtual 56, 3) := by decide +kernel
theorem dL_law_486 : decode cL_law 486 = .ok (.aload_n 2, 1) := by decide +kernel
theorem dL_law_487 : decode cL_law 487 = .ok (.aload_n 0, 1) := by decide +kernel
theorem dL_law_488 : decode cL_law 488 = .ok (.iload_n 3, 1) := by decide +kernel
theorem dL_law_489 : decode cL_law 489 = .ok (.iconst 1, 1) := by decide +kernel
theorem dL_law_490 : decode cL_law 490 = .ok (.iadd, 1) := by decide +kernel
theorem dL_law_491 : decode cL_law 491 = .ok (.iaload, 1) := by decide +kernel
theorem dL_law_492 : decode cL_law 492 = .ok (.aload_n 0, 1) := by decide +kernel
theorem dL_law_493 : decode cL_law 493 = .ok (.iload_n 3, 1) := by decide +kernel
theorem dL_law_494 : decode cL_law 494 = .ok (.iconst 2, 1) := by decide +kernel
theorem dL_law_495 : decode cL_law 495 = .ok (.iadd, 1) := by decide +kernel
theorem dL_law_496 : decode cL_law 496 = .ok (.iaload, 1) := by decide +kernel
theorem dL_law_497 : decode cL_law 497 = .ok (.invokevirtual 59, 3) := by decide +kernel
theorem dL_law_500 : decode cL_law 500 = .ok (.if_icmp .eq 245, 3) := by decide +kernel
theorem dL_law_503 : decode cL_law 503 = .ok (.iconst 0, 1) := by decide +kernel
theorem dL_law_504 : decode cL_law 504 = .ok (.ireturn, 1) := by decide +kernel
theorem dL_law_505 : decode cL_law 505 = .ok (.aload_n 1, 1) := by decide +kernel
theorem dL_law_506 : decode cL_law 506 = .ok (.aload_n 0, 1) := by decide +kernel
theorem dL_law_507 : decode cL_law 507 = .ok (.iload_n 3, 1) := by decide +kernel
theorem dL_law_508 : decode cL_law 508 = .ok (.iconst 1, 1) := by decide +kernel
theorem dL_law_509 : decode cL_law 509 = .ok (.iadd, 1) := by decide +kernel
theorem dL_law_510 : decode cL_law 510 = .ok (.iaload, 1) := by decide +kernel
theorem dL_law_511 : decode cL_law 511 = .ok (.aload_n 0, 1) := by decide +kernel
theorem dL_law_512 : decode cL_law 512 = .ok (.iload_n 3, 1) := by decide +kernel
theorem dL_law_513 : decode cL_law 513 = .ok (.iconst 2, 1) := by decide +kernel
theorem dL_law_514 : decode cL_law 514 = .ok (.iadd, 1) := by decide +kernel
theorem dL_law_515 : decode cL_law 515 = .ok (.iaload, 1) := by decide +kernel
theorem dL_law_516 : decode cL_law 516 = .ok (.invokevirtual 60, 3) := by decide +kernel
theorem dL_law_519 : decode cL_law 519 = .ok (.aload_n 2, 1) := by decide +kernel
theorem dL_law_520 : decode cL_law 520 = .ok (.aload_n 0, 1) := by decide +kernel
theorem dL_law_521 : decode cL_law 521 = .ok (.iload_n 3, 1) := by decide +kernel
theorem dL_law_522 : decode cL_law 522 = .ok (.iconst 1, 1) := by decide +kernel
theorem dL_law_523 : decode cL_law 523 = .ok (.iadd, 1) := by decide +kernel
theorem dL_law_524 : decode cL_law 524 = .ok (.iaload, 1) := by decide +kernel
theorem dL_law_525 : decode cL_law 525 = .ok (.aload_n 0, 1) := by decide +kernel
theorem dL_law_526 : decode cL_law 526 = .ok (.iload_n 3, 1) := by decide +kernel
theorem dL_law_527 : decode cL_law 527 = .ok (.iconst 2, 1) := by decide +kernel
theorem dL_law_528 : decode cL_law 528 = .ok (.iadd, 1) := by decide +kernel
theorem dL_law_529 : decode cL_law 529 = .ok (.iaload, 1) := by decide +kernel
theorem dL_law_530 : decode cL_law 530 = .ok (.invokevirtual 63, 3) := by decide +kernel
theorem dL_law_533 : decode cL_law 533 = .ok (.if_icmp .eq 212, 3) := by decide +kernel
theorem dL_law_536 : decode cL_law 536 = .ok (.iconst 0, 1) := by decide +kernel
theorem dL_law_537 : decode cL_law 537 = .ok (.ireturn, 1) := by decide +kernel
theorem dL_law_538 : decode cL_law 538 = .ok (.aload_n 1, 1) := by decide +kernel
theorem dL_law_539 : decode cL_law 539 = .ok (.aload_n 0, 1) := by decide +kernel
theorem dL_law_540 : decode cL_law 540 = .ok (.iload_n 3, 1) := by decide +kernel
theorem dL_law_541 : decode cL_law 541 = .ok (.iconst 1, 1) := by decide +kernel
theorem dL_law_542 : decode cL_law 542 = .ok (.iadd, 1) := by decide +kernel
theorem dL_law_543 : decode cL_law 543 = .ok (.iaload, 1) := by decide +kernel
theorem dL_law_544 : decode cL_law 544 = .ok (.invokevirtual 64, 3) := by decide +kernel
theorem dL_law_547 : decode cL_law 547 = .ok (.aload_n 2, 1) := by decide +kernel
theorem dL_law_548 : decode cL_law 548 = .ok (.aload_n 0, 1) := by decide +kernel
theorem dL_law_549 : decode cL_law 549 = .ok (.iload_n 3, 1) := by decide +kernel
theorem dL_law_550 : decode cL_law 550 = .ok (.iconst 1, 1) := by decide +kernel
theorem dL_law_551 : decode cL_law 551 = .ok (.iadd, 1) := by decide +kernel
theorem dL_law_552 : decode cL_law 552 = .ok (.iaload, 1) := by decide +kernel
theorem dL_law_553 : decode cL_law 553 = .ok (.invokevirtual 67, 3) := by decide +kernel
theorem dL_law_556 : decode cL_law 556 = .ok (.if_icmp .eq 189, 3) := by decide +kernel
theorem dL_law_559 : decode cL_law 559 = .ok (.iconst 0, 1) := by decide +kernel
theorem dL_law_560 : decode cL_law 560 = .ok (.ireturn, 1) := by decide +kernel
theorem dL_law_561 : decode cL_law 561 = .ok (.aload_n 1, 1) := by decide +kernel
theorem dL_law_562 : decode cL_law 562 = .ok (.aload_n 0, 1) := by decide +kernel
theorem dL_law_563 : decode cL_law 563 = .ok (.iload_n 3, 1) := by decide +kernel
theorem dL_law_564 : decode cL_law 564 = .ok (.iconst 1, 1) := by decide +kernel
theorem dL_law_565 : decode cL_law 565 = .ok (.iadd, 1) := by decide +kernel
theorem dL_law_566 : decode cL_law 566 = .ok (.iaload, 1) := by decide +kernel
theorem dL_law_567 : decode cL_law 567 = .ok (.aload_n 0, 1) := by decide +kernel
theorem dL_law_568 : decode cL_law 568 = .ok (.iload_n 3, 1) := by decide +kernel
theorem dL_law_569 : decode cL_law 569 = .ok (.iconst 2, 1) := by decide +kernel
theorem dL_law_570 : decode cL_law 570 = .ok (.iadd, 1) := by decide +kernel
theorem dL_law_571 : decode cL_law 571 = .ok (.iaload, 1) := by decide +kernel
theorem dL_law_572 : decode cL_law 572 = .ok (.aload_n 0, 1) := by decide +kernel
theorem dL_law_573 : decode cL_law 573 = .ok (.iload_n 3, 1) := by decide +kernel
theorem dL_law_574 : decode cL_law 574 = .ok (.iconst 3, 1) := by decide +kernel
theorem dL_law_575 : decode cL_law 575 = .ok (.iadd, 1) := by decide +kernel
theorem dL_law_576 : decode cL_law 576 = .ok (.iaload, 1) := by decide +kernel
theorem dL_law_577 : decode cL_law 577 = .ok (.invokevirtual 68, 3) := by decide +kernel
theorem dL_law_580 : decode cL_law 580 = .ok (.aload_n 2, 1) := by decide +kernel
theorem dL_law_581 : decode cL_law 581 = .ok (.aload_n 0, 1) := by decide +kernel
theorem dL_law_582 : decode cL_law 582 = .ok (.iload_n 3, 1) := by decide +kernel
theorem dL_law_583 : decode cL_law 583 = .ok (.iconst 1, 1) := by decide +kernel
theorem dL_law_584 : decode cL_law 584 = .ok (.iadd, 1) := by decide +kernel
theorem dL_law_585 : decode cL_law 585 = .ok (.iaload, 1) := by decide +kernel
theorem dL_law_586 : decode cL_law 586 = .ok (.aload_n 0, 1) := by decide +kernel
theorem dL_law_587 : decode cL_law 587 = .ok (.iload_n 3, 1) := by decide +kernel
theorem dL_law_588 : decode cL_law 588 = .ok (.iconst 2, 1) := by decide +kernel
theorem dL_law_589 : decode cL_law 589 = .ok (.iadd, 1) := by decide +kernel
theorem dL_law_590 : decode cL_law 590 = .ok (.iaload, 1) := by decide +kernel
theorem dL_law_591 : decode cL_law 591 = .ok (.aload_n 0, 1) := by decide +kernel
theorem dL_law_592 : decode cL_law 592 = .ok (.iload_n 3, 1) := by decide +kernel
theorem dL_law_593 : decode cL_law 593 = .ok (.iconst 3, 1) := by decide +kernel
theorem dL_law_594 : decode cL_law 594 = .ok (.iadd, 1) := by decide +kernel
theorem dL_law_595 : decode cL_law 595 = .ok (.iaload, 1) := by decide +kernel
theorem dL_law_596 : decode cL_law 596 = .ok (.invokevirtual 71, 3) := by decide +kernel
theorem dL_law_599 : decode cL_law 599 = .ok (.if_icmp .eq 146, 3) := by decide +kernel
theorem dL_law_602 : decode cL_law 602 = .ok (.iconst 0, 1) := by decide +kernel
theorem dL_law_603 : decode cL_law 603 = .ok (.ireturn, 1) := by decide +kernel
theorem dL_law_604 : decode cL_law 604 = .ok (.aload_n 1, 1) := by decide +kernel
theorem dL_law_605 : decode cL_law 605 = .ok (.aload_n 0, 1) := by decide +kernel
theorem dL_law_606 : decode cL_law 606 = .ok (.iload_n 3, 1) := by decide +kernel
theorem dL_law_607 : decode cL_law 607 = .ok (.iconst 1, 1) := by decide +kernel
theorem dL_law_608 : decode cL_law 608 = .ok (.iadd, 1) := by decide +kernel
theorem dL_law_609 : decode cL_law 609 = .ok (.iaload, 1) := by decide +kernel
theorem dL_law_610 : decode cL_law 610 = .ok (.aload_n 0, 1) := by decide +kernel
theorem dL_law_611 : decode cL_law 611 = .ok (.iload_n 3, 1) := by decide +kernel
theorem dL_law_612 : decode cL_law 612 = .ok (.iconst 2, 1) := by decide +kernel
theorem dL_law_613 : decode cL_law 613 = .ok (.iadd, 1) := by decide +kernel
theorem dL_law_614 : decode cL_law 614 = .ok (.iaload, 1) := by decide +kernel
theorem dL_law_615 : decode cL_law 615 = .ok (.invokevirtual 72, 3) := by decide +kernel
theorem dL_law_618 : decode cL_law 618 = .ok (.aload_n 2, 1) := by decide +kernel
theorem dL_law_619 : decode cL_law 619 = .ok (.aload_n 0, 1) := by decide +kernel
theorem dL_law_620 : decode cL_law 620 = .ok (.iload_n 3, 1) := by decide +kernel
theorem dL_law_621 : decode cL_law 621 = .ok (.iconst 1, 1) := by decide +kernel
theorem dL_law_622 : decode cL_law 622 = .ok (.iadd, 1) := by decide +kernel
theorem dL_law_623 : decode cL_law 623 = .ok (.iaload, 1) := by decide +kernel
theorem dL_law_624 : decode cL_law 624 = .ok (.aload_n 0, 1) := by decide +kernel
theorem dL_law_625 : decode cL_law 625 = .ok (.iload_n 3, 1) := by decide +kernel
theorem dL_law_626 : decode cL_law 626 = .ok (.iconst 2, 1) := by decide +kernel
theorem dL_law_627 : decode cL_law 627 = .ok (.iadd, 1) := by decide +kernel
theorem dL_law_628 : decode cL_law 628 = .ok (.iaload, 1) := by decide +kernel
theorem dL_law_629 : decode cL_law 629 = .ok (.invokevirtual 75, 3) := by decide +kernel
theorem dL_law_632 : decode cL_law 632 = .ok (.if_icmp .eq 113, 3) := by decide +kernel
theorem dL_law_635 : decode cL_law 635 = .ok (.iconst 0, 1) := by decide +kernel
theorem dL_law_636 : decode cL_law 636 = .ok (.ireturn, 1) := by decide +kernel
theorem dL_law_637 : decode cL_law 637 = .ok (.aload_n 1, 1) := by decide +kernel
theorem dL_law_638 : decode cL_law 638 = .ok (.aload_n 0, 1) := by decide +kernel
theorem dL_law_639 : decode cL_law 639 = .ok (.iload_n 3, 1) := by decide +kernel
theorem dL_law_640 : decode cL_law 640 = .ok (.iconst 1, 1) := by decide +kernel
theorem dL_law_641 : decode cL_law 641 = .ok (.iadd, 1) := by decide +kernel
theorem dL_law_642 : decode cL_law 642 = .ok (.iaload, 1) := by decide +kernel
theorem dL_law_643 : decode cL_law 643 = .ok (.invokevirtual 76, 3) := by decide +kernel
theorem dL_law_646 : decode cL_law 646 = .ok (.aload_n 2, 1) := by decide +kernel
theorem dL_law_647 : decode cL_law 647 = .ok (.aload_n 0, 1) := by decide +kernel
theorem dL_law_648 : decode cL_law 648 = .ok (.iload_n 3, 1) := by decide +kernel
theorem dL_law_649 : decode cL_law 649 = .ok (.iconst 1, 1) := by decide +kernel
theorem dL_law_650 : decode cL_law 650 = .ok (.iadd, 1) := by decide +kernel
theorem dL_law_651 : decode cL_law 651 = .ok (.iaload, 1) := by decide +kernel
theorem dL_law_652 : decode cL_law 652 = .ok (.invokevirtual 79, 3) := by decide +kernel
theorem dL_law_655 : decode cL_law 655 = .ok (.if_icmp .eq 90, 3) := by decide +kernel
theorem dL_law_658 : decode cL_law 658 = .ok (.iconst 0, 1) := by decide +kernel
theorem dL_law_659 : decode cL_law 659 = .ok (.ireturn, 1) := by decide +kernel
theorem dL_law_660 : decode cL_law 660 = .ok (.aload_n 1, 1) := by decide +kernel
theorem dL_law_661 : decode cL_law 661 = .ok (.invokevirtual 80, 3) := by decide +kernel
theorem dL_law_664 : decode cL_law 664 = .ok (.aload_n 2, 1) := by decide +kernel
theorem dL_law_665 : decode cL_law 665 = .ok (.invokevirtual 84, 3) := by decide +kernel
theorem dL_law_668 : decode cL_law 668 = .ok (.if_icmp .eq 77, 3) := by decide +kernel
theorem dL_law_671 : decode cL_law 671 = .ok (.iconst 0, 1) := by decide +kernel
theorem dL_law_672 : decode cL_law 672 = .ok (.ireturn, 1) := by decide +kernel
theorem dL_law_673 : decode cL_law 673 = .ok (.aload_n 1, 1) := by decide +kernel
theorem dL_law_674 : decode cL_law 674 = .ok (.aload_n 0, 1) := by decide +kernel
theorem dL_law_675 : decode cL_law 675 = .ok (.iload_n 3, 1) := by decide +kernel
theorem dL_law_676 : decode cL_law 676 = .ok (.iconst 1, 1) := by decide +kernel
theorem dL_law_677 : decode cL_law 677 = .ok (.iadd, 1) := by decide +kernel
theorem dL_law_678 : decode cL_law 678 = .ok (.iaload, 1) := by decide +kernel
theorem dL_law_679 : decode cL_law 679 = .ok (.invokevirtual 85, 3) := by decide +kernel
theorem dL_law_682 : decode cL_law 682 = .ok (.aload_n 2, 1) := by decide +kernel
theorem dL_law_683 : decode cL_law 683 = .ok (.aload_n 0, 1) := by decide +kernel
theorem dL_law_684 : decode cL_law 684 = .ok (.iload_n 3, 1) := by decide +kernel
theorem dL_law_685 : decode cL_law 685 = .ok (.iconst 1, 1) := by decide +kernel
theorem dL_law_686 : decode cL_law 686 = .ok (.iadd, 1) := by decide +kernel
theorem dL_law_687 : decode cL_law 687 = .ok (.iaload, 1) := by decide +kernel
theorem dL_law_688 : decode cL_law 688 = .ok (.invokevirtual 88, 3) := by decide +kernel
theorem dL_law_691 : decode cL_law 691 = .ok (.if_icmp .eq 54, 3) := by decide +kernel
theorem dL_law_694 : decode cL_law 694 = .ok (.iconst 0, 1) := by decide +kernel
theorem dL_law_695 : decode cL_law 695 = .ok (.ireturn, 1) := by decide +kernel
theorem dL_law_696 : decode cL_law 696 = .ok (.aload_n 1, 1) := by decide +kernel
theorem dL_law_697 : decode cL_law 697 = .ok (.invokevirtual 89, 3) := by decide +kernel
theorem dL_law_700 : decode cL_law 700 = .ok (.aload_n 2, 1) := by decide +kernel
theorem dL_law_701 : decode cL_law 701 = .ok (.invokevirtual 92, 3) := by decide +kernel
theorem dL_law_704 : decode cL_law 704 = .ok (.if_icmp .eq 41, 3) := by decide +kernel
theorem dL_law_707 : decode cL_law 707 = .ok (.iconst 0, 1) := by decide +kernel
theorem dL_law_708 : decode cL_law 708 = .ok (.ireturn, 1) := by decide +kernel
theorem dL_law_709 : decode cL_law 709 = .ok (.aload_n 1, 1) := by decide +kernel
theorem dL_law_710 : decode cL_law 710 = .ok (.aload_n 0, 1) := by decide +kernel
theorem dL_law_711 : decode cL_law 711 = .ok (.iload_n 3, 1) := by decide +kernel
theorem dL_law_712 : decode cL_law 712 = .ok (.iconst 1, 1) := by decide +kernel
theorem dL_law_713 : decode cL_law 713 = .ok (.iadd, 1) := by decide +kernel
theorem dL_law_714 : decode cL_law 714 = .ok (.iaload, 1) := by decide +kernel
theorem dL_law_715 : decode cL_law 715 = .ok (.invokevirtual 93, 3) := by decide +kernel
theorem dL_law_718 : decode cL_law 718 = .ok (.aload_n 2, 1) := by decide +kernel
theorem dL_law_719 : decode cL_law 719 = .ok (.aload_n 0, 1) := by decide +kernel
theorem dL_law_720 : decode cL_law 720 = .ok (.iload_n 3, 1) := by decide +kernel
theorem dL_law_721 : decode cL_law 721 = .ok (.iconst 1, 1) := by decide +kernel
theorem dL_law_722 : decode cL_law 722 = .ok (.iadd, 1) := by decide +kernel
theorem dL_law_723 : decode cL_law 723 = .ok (.iaload, 1) := by decide +kernel
theorem dL_law_724 : decode cL_law 724 = .ok (.invokevirtual 96, 3) := by decide +kernel
theorem dL_law_727 : decode cL_law 727 = .ok (.if_icmp .eq 18, 3) := by decide +kernel
theorem dL_law_730 : decode cL_law 730 = .ok (.iconst 0, 1) := by decide +kernel
theorem dL_law_731 : decode cL_law 731 = .ok (.ireturn, 1) := by decide +kernel
theorem dL_law_732 : decode cL_law 732 = .ok (.aload_n 1, 1) := by decide +kernel
theorem dL_law_733 : decode cL_law 733 = .ok (.invokevirtual 97, 3) := by decide +kernel
theorem dL_law_736 : decode cL_law 736 = .ok (.aload_n 2, 1) := by decide +kernel
theorem dL_law_737 : decode cL_law 737 = .ok (.invokevirtual 100, 3) := by decide +kernel
theorem dL_law_740 : decode cL_law 740 = .ok (.if_icmp .eq 5, 3) := by decide +kernel
theorem dL_law_743 : decode cL_law 743 = .ok (.iconst 0, 1) := by decide +kernel
theorem dL_law_744 : decode cL_law 744 = .ok (.ireturn, 1) := by decide +kernel
theorem dL_law_745 : decode cL_law 745 = .ok (.iinc 3 4, 3) := by decide +kernel
theorem dL_law_748 : decode cL_law 748 = .ok (.goto (-730), 3) := by decide +kernel
theorem dL_law_751 : decode cL_law 751 = .ok (.iconst 1, 1) := by decide +kernel
theorem dL_law_752 : decode cL_law 752 = .ok (.ireturn, 1) := by decide +kernel
