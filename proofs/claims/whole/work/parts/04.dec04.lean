theorem dc_Mo_interval_0 : decode cd_Mo_interval 0 = .ok (.aload_n 0, 1) := by decide +kernel
theorem dc_Mo_interval_1 : decode cd_Mo_interval 1 = .ok (.iload_n 1, 1) := by decide +kernel
theorem dc_Mo_interval_2 : decode cd_Mo_interval 2 = .ok (.invokestatic 87, 3) := by decide +kernel
theorem dc_Mo_interval_5 : decode cd_Mo_interval 5 = .ok (.ifCond .ne 10, 3) := by decide +kernel
theorem dc_Mo_interval_8 : decode cd_Mo_interval 8 = .ok (.iload_n 2, 1) := by decide +kernel
theorem dc_Mo_interval_9 : decode cd_Mo_interval 9 = .ok (.invokestatic 87, 3) := by decide +kernel
theorem dc_Mo_interval_12 : decode cd_Mo_interval 12 = .ok (.ifCond .eq 7, 3) := by decide +kernel
theorem dc_Mo_interval_15 : decode cd_Mo_interval 15 = .ok (.iconst 1, 1) := by decide +kernel
theorem dc_Mo_interval_16 : decode cd_Mo_interval 16 = .ok (.goto 4, 3) := by decide +kernel
theorem dc_Mo_interval_19 : decode cd_Mo_interval 19 = .ok (.iconst 0, 1) := by decide +kernel
theorem dc_Mo_interval_20 : decode cd_Mo_interval 20 = .ok (.putfield 75, 3) := by decide +kernel
theorem dc_Mo_interval_23 : decode cd_Mo_interval 23 = .ok (.aload_n 0, 1) := by decide +kernel
theorem dc_Mo_interval_24 : decode cd_Mo_interval 24 = .ok (.getfield 75, 3) := by decide +kernel
theorem dc_Mo_interval_27 : decode cd_Mo_interval 27 = .ok (.ifCond .le 5, 3) := by decide +kernel
theorem dc_Mo_interval_30 : decode cd_Mo_interval 30 = .ok (.iconst 0, 1) := by decide +kernel
theorem dc_Mo_interval_31 : decode cd_Mo_interval 31 = .ok (.ireturn, 1) := by decide +kernel
theorem dc_Mo_interval_32 : decode cd_Mo_interval 32 = .ok (.aload_n 0, 1) := by decide +kernel
theorem dc_Mo_interval_33 : decode cd_Mo_interval 33 = .ok (.aload_n 0, 1) := by decide +kernel
theorem dc_Mo_interval_34 : decode cd_Mo_interval 34 = .ok (.getfield 13, 3) := by decide +kernel
theorem dc_Mo_interval_37 : decode cd_Mo_interval 37 = .ok (.bipush 6, 2) := by decide +kernel
theorem dc_Mo_interval_39 : decode cd_Mo_interval 39 = .ok (.iload_n 1, 1) := by decide +kernel
theorem dc_Mo_interval_40 : decode cd_Mo_interval 40 = .ok (.imul, 1) := by decide +kernel
theorem dc_Mo_interval_41 : decode cd_Mo_interval 41 = .ok (.aload_n 0, 1) := by decide +kernel
theorem dc_Mo_interval_42 : decode cd_Mo_interval 42 = .ok (.getfield 13, 3) := by decide +kernel
theorem dc_Mo_interval_45 : decode cd_Mo_interval 45 = .ok (.bipush 6, 2) := by decide +kernel
theorem dc_Mo_interval_47 : decode cd_Mo_interval 47 = .ok (.iload_n 2, 1) := by decide +kernel
theorem dc_Mo_interval_48 : decode cd_Mo_interval 48 = .ok (.imul, 1) := by decide +kernel
theorem dc_Mo_interval_49 : decode cd_Mo_interval 49 = .ok (.invokevirtual 120, 3) := by decide +kernel
theorem dc_Mo_interval_52 : decode cd_Mo_interval 52 = .ok (.iconst 0, 1) := by decide +kernel
theorem dc_Mo_interval_53 : decode cd_Mo_interval 53 = .ok (.istore 4, 2) := by decide +kernel
theorem dc_Mo_interval_55 : decode cd_Mo_interval 55 = .ok (.iconst 0, 1) := by decide +kernel
theorem dc_Mo_interval_56 : decode cd_Mo_interval 56 = .ok (.istore 5, 2) := by decide +kernel
theorem dc_Mo_interval_58 : decode cd_Mo_interval 58 = .ok (.iload 5, 2) := by decide +kernel
theorem dc_Mo_interval_60 : decode cd_Mo_interval 60 = .ok (.aload_n 0, 1) := by decide +kernel
theorem dc_Mo_interval_61 : decode cd_Mo_interval 61 = .ok (.getfield 7, 3) := by decide +kernel
theorem dc_Mo_interval_64 : decode cd_Mo_interval 64 = .ok (.if_icmp .ge 147, 3) := by decide +kernel
theorem dc_Mo_interval_67 : decode cd_Mo_interval 67 = .ok (.iload 5, 2) := by decide +kernel
theorem dc_Mo_interval_69 : decode cd_Mo_interval 69 = .ok (.iconst 1, 1) := by decide +kernel
theorem dc_Mo_interval_70 : decode cd_Mo_interval 70 = .ok (.iadd, 1) := by decide +kernel
theorem dc_Mo_interval_71 : decode cd_Mo_interval 71 = .ok (.istore 6, 2) := by decide +kernel
theorem dc_Mo_interval_73 : decode cd_Mo_interval 73 = .ok (.iload 6, 2) := by decide +kernel
theorem dc_Mo_interval_75 : decode cd_Mo_interval 75 = .ok (.aload_n 0, 1) := by decide +kernel
theorem dc_Mo_interval_76 : decode cd_Mo_interval 76 = .ok (.getfield 7, 3) := by decide +kernel
theorem dc_Mo_interval_79 : decode cd_Mo_interval 79 = .ok (.if_icmp .ge 126, 3) := by decide +kernel
theorem dc_Mo_interval_82 : decode cd_Mo_interval 82 = .ok (.bipush 99, 2) := by decide +kernel
theorem dc_Mo_interval_84 : decode cd_Mo_interval 84 = .ok (.istore 7, 2) := by decide +kernel
theorem dc_Mo_interval_86 : decode cd_Mo_interval 86 = .ok (.iconst 0, 1) := by decide +kernel
theorem dc_Mo_interval_87 : decode cd_Mo_interval 87 = .ok (.istore 8, 2) := by decide +kernel
theorem dc_Mo_interval_89 : decode cd_Mo_interval 89 = .ok (.iload 5, 2) := by decide +kernel
theorem dc_Mo_interval_91 : decode cd_Mo_interval 91 = .ok (.istore 9, 2) := by decide +kernel
theorem dc_Mo_interval_93 : decode cd_Mo_interval 93 = .ok (.iload 9, 2) := by decide +kernel
theorem dc_Mo_interval_95 : decode cd_Mo_interval 95 = .ok (.iload 6, 2) := by decide +kernel
theorem dc_Mo_interval_97 : decode cd_Mo_interval 97 = .ok (.if_icmp .gt 71, 3) := by decide +kernel
theorem dc_Mo_interval_100 : decode cd_Mo_interval 100 = .ok (.aload_n 0, 1) := by decide +kernel
theorem dc_Mo_interval_101 : decode cd_Mo_interval 101 = .ok (.getfield 45, 3) := by decide +kernel
theorem dc_Mo_interval_104 : decode cd_Mo_interval 104 = .ok (.iload 9, 2) := by decide +kernel
theorem dc_Mo_interval_106 : decode cd_Mo_interval 106 = .ok (.iaload, 1) := by decide +kernel
theorem dc_Mo_interval_107 : decode cd_Mo_interval 107 = .ok (.ifCond .ge 14, 3) := by decide +kernel
theorem dc_Mo_interval_110 : decode cd_Mo_interval 110 = .ok (.aload_n 0, 1) := by decide +kernel
theorem dc_Mo_interval_111 : decode cd_Mo_interval 111 = .ok (.getfield 45, 3) := by decide +kernel
theorem dc_Mo_interval_114 : decode cd_Mo_interval 114 = .ok (.iload 9, 2) := by decide +kernel
theorem dc_Mo_interval_116 : decode cd_Mo_interval 116 = .ok (.iaload, 1) := by decide +kernel
theorem dc_Mo_interval_117 : decode cd_Mo_interval 117 = .ok (.ineg, 1) := by decide +kernel
theorem dc_Mo_interval_118 : decode cd_Mo_interval 118 = .ok (.goto 10, 3) := by decide +kernel
theorem dc_Mo_interval_121 : decode cd_Mo_interval 121 = .ok (.aload_n 0, 1) := by decide +kernel
theorem dc_Mo_interval_122 : decode cd_Mo_interval 122 = .ok (.getfield 45, 3) := by decide +kernel
theorem dc_Mo_interval_125 : decode cd_Mo_interval 125 = .ok (.iload 9, 2) := by decide +kernel
theorem dc_Mo_interval_127 : decode cd_Mo_interval 127 = .ok (.iaload, 1) := by decide +kernel
theorem dc_Mo_interval_128 : decode cd_Mo_interval 128 = .ok (.istore 10, 2) := by decide +kernel
theorem dc_Mo_interval_130 : decode cd_Mo_interval 130 = .ok (.iload 10, 2) := by decide +kernel
theorem dc_Mo_interval_132 : decode cd_Mo_interval 132 = .ok (.iload 7, 2) := by decide +kernel
theorem dc_Mo_interval_134 : decode cd_Mo_interval 134 = .ok (.if_icmp .ge 8, 3) := by decide +kernel
theorem dc_Mo_interval_137 : decode cd_Mo_interval 137 = .ok (.iload 10, 2) := by decide +kernel
theorem dc_Mo_interval_139 : decode cd_Mo_interval 139 = .ok (.goto 5, 3) := by decide +kernel
theorem dc_Mo_interval_142 : decode cd_Mo_interval 142 = .ok (.iload 7, 2) := by decide +kernel
theorem dc_Mo_interval_144 : decode cd_Mo_interval 144 = .ok (.istore 7, 2) := by decide +kernel
theorem dc_Mo_interval_146 : decode cd_Mo_interval 146 = .ok (.iload 10, 2) := by decide +kernel
theorem dc_Mo_interval_148 : decode cd_Mo_interval 148 = .ok (.iload 8, 2) := by decide +kernel
theorem dc_Mo_interval_150 : decode cd_Mo_interval 150 = .ok (.if_icmp .le 8, 3) := by decide +kernel
theorem dc_Mo_interval_153 : decode cd_Mo_interval 153 = .ok (.iload 10, 2) := by decide +kernel
theorem dc_Mo_interval_155 : decode cd_Mo_interval 155 = .ok (.goto 5, 3) := by decide +kernel
theorem dc_Mo_interval_158 : decode cd_Mo_interval 158 = .ok (.iload 8, 2) := by decide +kernel
theorem dc_Mo_interval_160 : decode cd_Mo_interval 160 = .ok (.istore 8, 2) := by decide +kernel
theorem dc_Mo_interval_162 : decode cd_Mo_interval 162 = .ok (.iinc 9 1, 3) := by decide +kernel
theorem dc_Mo_interval_165 : decode cd_Mo_interval 165 = .ok (.goto (-72), 3) := by decide +kernel
theorem dc_Mo_interval_168 : decode cd_Mo_interval 168 = .ok (.iload 8, 2) := by decide +kernel
theorem dc_Mo_interval_170 : decode cd_Mo_interval 170 = .ok (.iload 7, 2) := by decide +kernel
theorem dc_Mo_interval_172 : decode cd_Mo_interval 172 = .ok (.isub, 1) := by decide +kernel
theorem dc_Mo_interval_173 : decode cd_Mo_interval 173 = .ok (.iload 6, 2) := by decide +kernel
theorem dc_Mo_interval_175 : decode cd_Mo_interval 175 = .ok (.iload 5, 2) := by decide +kernel
theorem dc_Mo_interval_177 : decode cd_Mo_interval 177 = .ok (.isub, 1) := by decide +kernel
theorem dc_Mo_interval_178 : decode cd_Mo_interval 178 = .ok (.if_icmp .ne 21, 3) := by decide +kernel
theorem dc_Mo_interval_181 : decode cd_Mo_interval 181 = .ok (.iload 4, 2) := by decide +kernel
theorem dc_Mo_interval_183 : decode cd_Mo_interval 183 = .ok (.iload_n 3, 1) := by decide +kernel
theorem dc_Mo_interval_184 : decode cd_Mo_interval 184 = .ok (.if_icmp .ne 12, 3) := by decide +kernel
theorem dc_Mo_interval_187 : decode cd_Mo_interval 187 = .ok (.bipush 10, 2) := by decide +kernel
theorem dc_Mo_interval_189 : decode cd_Mo_interval 189 = .ok (.iload 5, 2) := by decide +kernel
theorem dc_Mo_interval_191 : decode cd_Mo_interval 191 = .ok (.imul, 1) := by decide +kernel
theorem dc_Mo_interval_192 : decode cd_Mo_interval 192 = .ok (.iload 6, 2) := by decide +kernel
theorem dc_Mo_interval_194 : decode cd_Mo_interval 194 = .ok (.iadd, 1) := by decide +kernel
theorem dc_Mo_interval_195 : decode cd_Mo_interval 195 = .ok (.ireturn, 1) := by decide +kernel
theorem dc_Mo_interval_196 : decode cd_Mo_interval 196 = .ok (.iinc 4 1, 3) := by decide +kernel
theorem dc_Mo_interval_199 : decode cd_Mo_interval 199 = .ok (.iinc 6 1, 3) := by decide +kernel
theorem dc_Mo_interval_202 : decode cd_Mo_interval 202 = .ok (.goto (-129), 3) := by decide +kernel
theorem dc_Mo_interval_205 : decode cd_Mo_interval 205 = .ok (.iinc 5 1, 3) := by decide +kernel
theorem dc_Mo_interval_208 : decode cd_Mo_interval 208 = .ok (.goto (-150), 3) := by decide +kernel
theorem dc_Mo_interval_211 : decode cd_Mo_interval 211 = .ok (.iconst (-1), 1) := by decide +kernel
theorem dc_Mo_interval_212 : decode cd_Mo_interval 212 = .ok (.ireturn, 1) := by decide +kernel
theorem dc_Mo_scenario_0 : decode cd_Mo_scenario 0 = .ok (.aload_n 0, 1) := by decide +kernel
theorem dc_Mo_scenario_1 : decode cd_Mo_scenario 1 = .ok (.iload_n 1, 1) := by decide +kernel
theorem dc_Mo_scenario_2 : decode cd_Mo_scenario 2 = .ok (.invokestatic 87, 3) := by decide +kernel
theorem dc_Mo_scenario_5 : decode cd_Mo_scenario 5 = .ok (.ifCond .ne 10, 3) := by decide +kernel
theorem dc_Mo_scenario_8 : decode cd_Mo_scenario 8 = .ok (.iload_n 2, 1) := by decide +kernel
theorem dc_Mo_scenario_9 : decode cd_Mo_scenario 9 = .ok (.invokestatic 87, 3) := by decide +kernel
theorem dc_Mo_scenario_12 : decode cd_Mo_scenario 12 = .ok (.ifCond .eq 7, 3) := by decide +kernel
theorem dc_Mo_scenario_15 : decode cd_Mo_scenario 15 = .ok (.iconst 1, 1) := by decide +kernel
theorem dc_Mo_scenario_16 : decode cd_Mo_scenario 16 = .ok (.goto 4, 3) := by decide +kernel
theorem dc_Mo_scenario_19 : decode cd_Mo_scenario 19 = .ok (.iconst 0, 1) := by decide +kernel
theorem dc_Mo_scenario_20 : decode cd_Mo_scenario 20 = .ok (.putfield 75, 3) := by decide +kernel
theorem dc_Mo_scenario_23 : decode cd_Mo_scenario 23 = .ok (.aload_n 0, 1) := by decide +kernel
theorem dc_Mo_scenario_24 : decode cd_Mo_scenario 24 = .ok (.getfield 75, 3) := by decide +kernel
theorem dc_Mo_scenario_27 : decode cd_Mo_scenario 27 = .ok (.ifCond .le 5, 3) := by decide +kernel
theorem dc_Mo_scenario_30 : decode cd_Mo_scenario 30 = .ok (.iconst 0, 1) := by decide +kernel
theorem dc_Mo_scenario_31 : decode cd_Mo_scenario 31 = .ok (.ireturn, 1) := by decide +kernel
theorem dc_Mo_scenario_32 : decode cd_Mo_scenario 32 = .ok (.aload_n 0, 1) := by decide +kernel
theorem dc_Mo_scenario_33 : decode cd_Mo_scenario 33 = .ok (.invokevirtual 117, 3) := by decide +kernel
theorem dc_Mo_scenario_36 : decode cd_Mo_scenario 36 = .ok (.aload_n 0, 1) := by decide +kernel
theorem dc_Mo_scenario_37 : decode cd_Mo_scenario 37 = .ok (.aload_n 0, 1) := by decide +kernel
theorem dc_Mo_scenario_38 : decode cd_Mo_scenario 38 = .ok (.getfield 13, 3) := by decide +kernel
theorem dc_Mo_scenario_41 : decode cd_Mo_scenario 41 = .ok (.bipush 6, 2) := by decide +kernel
theorem dc_Mo_scenario_43 : decode cd_Mo_scenario 43 = .ok (.iload_n 1, 1) := by decide +kernel
theorem dc_Mo_scenario_44 : decode cd_Mo_scenario 44 = .ok (.imul, 1) := by decide +kernel
theorem dc_Mo_scenario_45 : decode cd_Mo_scenario 45 = .ok (.aload_n 0, 1) := by decide +kernel
theorem dc_Mo_scenario_46 : decode cd_Mo_scenario 46 = .ok (.getfield 13, 3) := by decide +kernel
theorem dc_Mo_scenario_49 : decode cd_Mo_scenario 49 = .ok (.bipush 6, 2) := by decide +kernel
theorem dc_Mo_scenario_51 : decode cd_Mo_scenario 51 = .ok (.iload_n 2, 1) := by decide +kernel
theorem dc_Mo_scenario_52 : decode cd_Mo_scenario 52 = .ok (.imul, 1) := by decide +kernel
theorem dc_Mo_scenario_53 : decode cd_Mo_scenario 53 = .ok (.invokevirtual 120, 3) := by decide +kernel
theorem dc_Mo_scenario_56 : decode cd_Mo_scenario 56 = .ok (.aload_n 0, 1) := by decide +kernel
theorem dc_Mo_scenario_57 : decode cd_Mo_scenario 57 = .ok (.iconst 1, 1) := by decide +kernel
theorem dc_Mo_scenario_58 : decode cd_Mo_scenario 58 = .ok (.putfield 78, 3) := by decide +kernel
theorem dc_Mo_scenario_61 : decode cd_Mo_scenario 61 = .ok (.aload_n 0, 1) := by decide +kernel
theorem dc_Mo_scenario_62 : decode cd_Mo_scenario 62 = .ok (.iconst 0, 1) := by decide +kernel
theorem dc_Mo_scenario_63 : decode cd_Mo_scenario 63 = .ok (.putfield 158, 3) := by decide +kernel
theorem dc_Mo_scenario_66 : decode cd_Mo_scenario 66 = .ok (.aload_n 0, 1) := by decide +kernel
theorem dc_Mo_scenario_67 : decode cd_Mo_scenario 67 = .ok (.getfield 34, 3) := by decide +kernel
theorem dc_Mo_scenario_70 : decode cd_Mo_scenario 70 = .ok (.aload_n 0, 1) := by decide +kernel
theorem dc_Mo_scenario_71 : decode cd_Mo_scenario 71 = .ok (.getfield 95, 3) := by decide +kernel
theorem dc_Mo_scenario_74 : decode cd_Mo_scenario 74 = .ok (.aload_n 0, 1) := by decide +kernel
theorem dc_Mo_scenario_75 : decode cd_Mo_scenario 75 = .ok (.aload_n 0, 1) := by decide +kernel
theorem dc_Mo_scenario_76 : decode cd_Mo_scenario 76 = .ok (.getfield 45, 3) := by decide +kernel
theorem dc_Mo_scenario_79 : decode cd_Mo_scenario 79 = .ok (.invokevirtual 113, 3) := by decide +kernel
theorem dc_Mo_scenario_82 : decode cd_Mo_scenario 82 = .ok (.iadd, 1) := by decide +kernel
theorem dc_Mo_scenario_83 : decode cd_Mo_scenario 83 = .ok (.iaload, 1) := by decide +kernel
theorem dc_Mo_scenario_84 : decode cd_Mo_scenario 84 = .ok (.istore_n 3, 1) := by decide +kernel
theorem dc_Mo_scenario_85 : decode cd_Mo_scenario 85 = .ok (.iconst 0, 1) := by decide +kernel
theorem dc_Mo_scenario_86 : decode cd_Mo_scenario 86 = .ok (.istore 4, 2) := by decide +kernel
theorem dc_Mo_scenario_88 : decode cd_Mo_scenario 88 = .ok (.iconst 0, 1) := by decide +kernel
theorem dc_Mo_scenario_89 : decode cd_Mo_scenario 89 = .ok (.istore 5, 2) := by decide +kernel
theorem dc_Mo_scenario_91 : decode cd_Mo_scenario 91 = .ok (.iload_n 3, 1) := by decide +kernel
theorem dc_Mo_scenario_92 : decode cd_Mo_scenario 92 = .ok (.ifCond .le 135, 3) := by decide +kernel
theorem dc_Mo_scenario_95 : decode cd_Mo_scenario 95 = .ok (.aload_n 0, 1) := by decide +kernel
theorem dc_Mo_scenario_96 : decode cd_Mo_scenario 96 = .ok (.getfield 45, 3) := by decide +kernel
theorem dc_Mo_scenario_99 : decode cd_Mo_scenario 99 = .ok (.iconst 0, 1) := by decide +kernel
theorem dc_Mo_scenario_100 : decode cd_Mo_scenario 100 = .ok (.iload 4, 2) := by decide +kernel
theorem dc_Mo_scenario_102 : decode cd_Mo_scenario 102 = .ok (.iload 5, 2) := by decide +kernel
theorem dc_Mo_scenario_104 : decode cd_Mo_scenario 104 = .ok (.invokestatic 91, 3) := by decide +kernel
theorem dc_Mo_scenario_107 : decode cd_Mo_scenario 107 = .ok (.aload_n 0, 1) := by decide +kernel
theorem dc_Mo_scenario_108 : decode cd_Mo_scenario 108 = .ok (.getfield 34, 3) := by decide +kernel
theorem dc_Mo_scenario_111 : decode cd_Mo_scenario 111 = .ok (.aload_n 0, 1) := by decide +kernel
theorem dc_Mo_scenario_112 : decode cd_Mo_scenario 112 = .ok (.getfield 95, 3) := by decide +kernel
theorem dc_Mo_scenario_115 : decode cd_Mo_scenario 115 = .ok (.aload_n 0, 1) := by decide +kernel
theorem dc_Mo_scenario_116 : decode cd_Mo_scenario 116 = .ok (.aload_n 0, 1) := by decide +kernel
theorem dc_Mo_scenario_117 : decode cd_Mo_scenario 117 = .ok (.getfield 45, 3) := by decide +kernel
theorem dc_Mo_scenario_120 : decode cd_Mo_scenario 120 = .ok (.invokevirtual 113, 3) := by decide +kernel
theorem dc_Mo_scenario_123 : decode cd_Mo_scenario 123 = .ok (.iadd, 1) := by decide +kernel
theorem dc_Mo_scenario_124 : decode cd_Mo_scenario 124 = .ok (.iaload, 1) := by decide +kernel
theorem dc_Mo_scenario_125 : decode cd_Mo_scenario 125 = .ok (.iload_n 3, 1) := by decide +kernel
theorem dc_Mo_scenario_126 : decode cd_Mo_scenario 126 = .ok (.if_icmp .ge 42, 3) := by decide +kernel
theorem dc_Mo_scenario_129 : decode cd_Mo_scenario 129 = .ok (.iinc 3 (-1), 3) := by decide +kernel
theorem dc_Mo_scenario_132 : decode cd_Mo_scenario 132 = .ok (.aload_n 0, 1) := by decide +kernel
theorem dc_Mo_scenario_133 : decode cd_Mo_scenario 133 = .ok (.getfield 26, 3) := by decide +kernel
theorem dc_Mo_scenario_136 : decode cd_Mo_scenario 136 = .ok (.aload_n 0, 1) := by decide +kernel
theorem dc_Mo_scenario_137 : decode cd_Mo_scenario 137 = .ok (.getfield 158, 3) := by decide +kernel
theorem dc_Mo_scenario_140 : decode cd_Mo_scenario 140 = .ok (.bipush 10, 2) := by decide +kernel
theorem dc_Mo_scenario_142 : decode cd_Mo_scenario 142 = .ok (.iload 4, 2) := by decide +kernel
theorem dc_Mo_scenario_144 : decode cd_Mo_scenario 144 = .ok (.imul, 1) := by decide +kernel
theorem dc_Mo_scenario_145 : decode cd_Mo_scenario 145 = .ok (.iload 5, 2) := by decide +kernel
theorem dc_Mo_scenario_147 : decode cd_Mo_scenario 147 = .ok (.iadd, 1) := by decide +kernel
theorem dc_Mo_scenario_148 : decode cd_Mo_scenario 148 = .ok (.iastore, 1) := by decide +kernel
theorem dc_Mo_scenario_149 : decode cd_Mo_scenario 149 = .ok (.aload_n 0, 1) := by decide +kernel
theorem dc_Mo_scenario_150 : decode cd_Mo_scenario 150 = .ok (.dup, 1) := by decide +kernel
theorem dc_Mo_scenario_151 : decode cd_Mo_scenario 151 = .ok (.getfield 158, 3) := by decide +kernel
theorem dc_Mo_scenario_154 : decode cd_Mo_scenario 154 = .ok (.iconst 1, 1) := by decide +kernel
theorem dc_Mo_scenario_155 : decode cd_Mo_scenario 155 = .ok (.iadd, 1) := by decide +kernel
theorem dc_Mo_scenario_156 : decode cd_Mo_scenario 156 = .ok (.putfield 158, 3) := by decide +kernel
theorem dc_Mo_scenario_159 : decode cd_Mo_scenario 159 = .ok (.iconst 0, 1) := by decide +kernel
theorem dc_Mo_scenario_160 : decode cd_Mo_scenario 160 = .ok (.istore 4, 2) := by decide +kernel
theorem dc_Mo_scenario_162 : decode cd_Mo_scenario 162 = .ok (.iconst 0, 1) := by decide +kernel
theorem dc_Mo_scenario_163 : decode cd_Mo_scenario 163 = .ok (.istore 5, 2) := by decide +kernel
theorem dc_Mo_scenario_165 : decode cd_Mo_scenario 165 = .ok (.goto (-74), 3) := by decide +kernel
theorem dc_Mo_scenario_168 : decode cd_Mo_scenario 168 = .ok (.aload_n 0, 1) := by decide +kernel
theorem dc_Mo_scenario_169 : decode cd_Mo_scenario 169 = .ok (.getfield 45, 3) := by decide +kernel
theorem dc_Mo_scenario_172 : decode cd_Mo_scenario 172 = .ok (.iconst 0, 1) := by decide +kernel
theorem dc_Mo_scenario_173 : decode cd_Mo_scenario 173 = .ok (.iload 4, 2) := by decide +kernel
theorem dc_Mo_scenario_175 : decode cd_Mo_scenario 175 = .ok (.iload 5, 2) := by decide +kernel
theorem dc_Mo_scenario_177 : decode cd_Mo_scenario 177 = .ok (.invokestatic 91, 3) := by decide +kernel
theorem dc_Mo_scenario_180 : decode cd_Mo_scenario 180 = .ok (.iload 5, 2) := by decide +kernel
theorem dc_Mo_scenario_182 : decode cd_Mo_scenario 182 = .ok (.iconst 1, 1) := by decide +kernel
theorem dc_Mo_scenario_183 : decode cd_Mo_scenario 183 = .ok (.iadd, 1) := by decide +kernel
theorem dc_Mo_scenario_184 : decode cd_Mo_scenario 184 = .ok (.aload_n 0, 1) := by decide +kernel
theorem dc_Mo_scenario_185 : decode cd_Mo_scenario 185 = .ok (.getfield 7, 3) := by decide +kernel
theorem dc_Mo_scenario_188 : decode cd_Mo_scenario 188 = .ok (.if_icmp .ne 10, 3) := by decide +kernel
theorem dc_Mo_scenario_191 : decode cd_Mo_scenario 191 = .ok (.iload 4, 2) := by decide +kernel
theorem dc_Mo_scenario_193 : decode cd_Mo_scenario 193 = .ok (.iconst 1, 1) := by decide +kernel
theorem dc_Mo_scenario_194 : decode cd_Mo_scenario 194 = .ok (.iadd, 1) := by decide +kernel
theorem dc_Mo_scenario_195 : decode cd_Mo_scenario 195 = .ok (.goto 5, 3) := by decide +kernel
theorem dc_Mo_scenario_198 : decode cd_Mo_scenario 198 = .ok (.iload 4, 2) := by decide +kernel
theorem dc_Mo_scenario_200 : decode cd_Mo_scenario 200 = .ok (.istore 4, 2) := by decide +kernel
theorem dc_Mo_scenario_202 : decode cd_Mo_scenario 202 = .ok (.iload 5, 2) := by decide +kernel
theorem dc_Mo_scenario_204 : decode cd_Mo_scenario 204 = .ok (.iconst 1, 1) := by decide +kernel
theorem dc_Mo_scenario_205 : decode cd_Mo_scenario 205 = .ok (.iadd, 1) := by decide +kernel
theorem dc_Mo_scenario_206 : decode cd_Mo_scenario 206 = .ok (.aload_n 0, 1) := by decide +kernel
theorem dc_Mo_scenario_207 : decode cd_Mo_scenario 207 = .ok (.getfield 7, 3) := by decide +kernel
theorem dc_Mo_scenario_210 : decode cd_Mo_scenario 210 = .ok (.if_icmp .ne 8, 3) := by decide +kernel
theorem dc_Mo_scenario_213 : decode cd_Mo_scenario 213 = .ok (.iload 4, 2) := by decide +kernel
theorem dc_Mo_scenario_215 : decode cd_Mo_scenario 215 = .ok (.goto 7, 3) := by decide +kernel
theorem dc_Mo_scenario_218 : decode cd_Mo_scenario 218 = .ok (.iload 5, 2) := by decide +kernel
theorem dc_Mo_scenario_220 : decode cd_Mo_scenario 220 = .ok (.iconst 1, 1) := by decide +kernel
theorem dc_Mo_scenario_221 : decode cd_Mo_scenario 221 = .ok (.iadd, 1) := by decide +kernel
theorem dc_Mo_scenario_222 : decode cd_Mo_scenario 222 = .ok (.istore 5, 2) := by decide +kernel
theorem dc_Mo_scenario_224 : decode cd_Mo_scenario 224 = .ok (.goto (-133), 3) := by decide +kernel
theorem dc_Mo_scenario_227 : decode cd_Mo_scenario 227 = .ok (.aload_n 0, 1) := by decide +kernel
theorem dc_Mo_scenario_228 : decode cd_Mo_scenario 228 = .ok (.getfield 158, 3) := by decide +kernel
theorem dc_Mo_scenario_231 : decode cd_Mo_scenario 231 = .ok (.ireturn, 1) := by decide +kernel
theorem dc_Mo_step_0 : decode cd_Mo_step 0 = .ok (.aload_n 0, 1) := by decide +kernel
theorem dc_Mo_step_1 : decode cd_Mo_step 1 = .ok (.aload_n 0, 1) := by decide +kernel
theorem dc_Mo_step_2 : decode cd_Mo_step 2 = .ok (.getfield 78, 3) := by decide +kernel
theorem dc_Mo_step_5 : decode cd_Mo_step 5 = .ok (.ifCond .ne 7, 3) := by decide +kernel
theorem dc_Mo_step_8 : decode cd_Mo_step 8 = .ok (.iconst 1, 1) := by decide +kernel
theorem dc_Mo_step_9 : decode cd_Mo_step 9 = .ok (.goto 20, 3) := by decide +kernel
theorem dc_Mo_step_12 : decode cd_Mo_step 12 = .ok (.iload_n 1, 1) := by decide +kernel
theorem dc_Mo_step_13 : decode cd_Mo_step 13 = .ok (.ifCond .lt 11, 3) := by decide +kernel
theorem dc_Mo_step_16 : decode cd_Mo_step 16 = .ok (.iload_n 1, 1) := by decide +kernel
theorem dc_Mo_step_17 : decode cd_Mo_step 17 = .ok (.aload_n 0, 1) := by decide +kernel
theorem dc_Mo_step_18 : decode cd_Mo_step 18 = .ok (.getfield 158, 3) := by decide +kernel
theorem dc_Mo_step_21 : decode cd_Mo_step 21 = .ok (.if_icmp .lt 7, 3) := by decide +kernel
theorem dc_Mo_step_24 : decode cd_Mo_step 24 = .ok (.iconst 2, 1) := by decide +kernel
theorem dc_Mo_step_25 : decode cd_Mo_step 25 = .ok (.goto 4, 3) := by decide +kernel
theorem dc_Mo_step_28 : decode cd_Mo_step 28 = .ok (.iconst 0, 1) := by decide +kernel
theorem dc_Mo_step_29 : decode cd_Mo_step 29 = .ok (.putfield 75, 3) := by decide +kernel
theorem dc_Mo_step_32 : decode cd_Mo_step 32 = .ok (.aload_n 0, 1) := by decide +kernel
theorem dc_Mo_step_33 : decode cd_Mo_step 33 = .ok (.getfield 75, 3) := by decide +kernel
theorem dc_Mo_step_36 : decode cd_Mo_step 36 = .ok (.ifCond .le 7, 3) := by decide +kernel
theorem dc_Mo_step_39 : decode cd_Mo_step 39 = .ok (.iconst 0, 1) := by decide +kernel
theorem dc_Mo_step_40 : decode cd_Mo_step 40 = .ok (.goto 9, 3) := by decide +kernel
theorem dc_Mo_step_43 : decode cd_Mo_step 43 = .ok (.aload_n 0, 1) := by decide +kernel
theorem dc_Mo_step_44 : decode cd_Mo_step 44 = .ok (.getfield 26, 3) := by decide +kernel
theorem dc_Mo_step_47 : decode cd_Mo_step 47 = .ok (.iload_n 1, 1) := by decide +kernel
theorem dc_Mo_step_48 : decode cd_Mo_step 48 = .ok (.iaload, 1) := by decide +kernel
theorem dc_Mo_step_49 : decode cd_Mo_step 49 = .ok (.ireturn, 1) := by decide +kernel
theorem dc_Mo_ways_0 : decode cd_Mo_ways 0 = .ok (.aload_n 0, 1) := by decide +kernel
theorem dc_Mo_ways_1 : decode cd_Mo_ways 1 = .ok (.iload_n 1, 1) := by decide +kernel
theorem dc_Mo_ways_2 : decode cd_Mo_ways 2 = .ok (.invokestatic 87, 3) := by decide +kernel
theorem dc_Mo_ways_5 : decode cd_Mo_ways 5 = .ok (.ifCond .ne 10, 3) := by decide +kernel
theorem dc_Mo_ways_8 : decode cd_Mo_ways 8 = .ok (.iload_n 2, 1) := by decide +kernel
theorem dc_Mo_ways_9 : decode cd_Mo_ways 9 = .ok (.invokestatic 87, 3) := by decide +kernel
theorem dc_Mo_ways_12 : decode cd_Mo_ways 12 = .ok (.ifCond .eq 7, 3) := by decide +kernel
theorem dc_Mo_ways_15 : decode cd_Mo_ways 15 = .ok (.iconst 1, 1) := by decide +kernel
theorem dc_Mo_ways_16 : decode cd_Mo_ways 16 = .ok (.goto 16, 3) := by decide +kernel
theorem dc_Mo_ways_19 : decode cd_Mo_ways 19 = .ok (.aload_n 0, 1) := by decide +kernel
theorem dc_Mo_ways_20 : decode cd_Mo_ways 20 = .ok (.getfield 7, 3) := by decide +kernel
theorem dc_Mo_ways_23 : decode cd_Mo_ways 23 = .ok (.iconst 4, 1) := by decide +kernel
theorem dc_Mo_ways_24 : decode cd_Mo_ways 24 = .ok (.if_icmp .le 7, 3) := by decide +kernel
theorem dc_Mo_ways_27 : decode cd_Mo_ways 27 = .ok (.iconst 2, 1) := by decide +kernel
theorem dc_Mo_ways_28 : decode cd_Mo_ways 28 = .ok (.goto 4, 3) := by decide +kernel
theorem dc_Mo_ways_31 : decode cd_Mo_ways 31 = .ok (.iconst 0, 1) := by decide +kernel
theorem dc_Mo_ways_32 : decode cd_Mo_ways 32 = .ok (.putfield 75, 3) := by decide +kernel
theorem dc_Mo_ways_35 : decode cd_Mo_ways 35 = .ok (.aload_n 0, 1) := by decide +kernel
theorem dc_Mo_ways_36 : decode cd_Mo_ways 36 = .ok (.getfield 75, 3) := by decide +kernel
theorem dc_Mo_ways_39 : decode cd_Mo_ways 39 = .ok (.ifCond .le 5, 3) := by decide +kernel
theorem dc_Mo_ways_42 : decode cd_Mo_ways 42 = .ok (.lconst 0, 1) := by decide +kernel
theorem dc_Mo_ways_43 : decode cd_Mo_ways 43 = .ok (.lreturn, 1) := by decide +kernel
theorem dc_Mo_ways_44 : decode cd_Mo_ways 44 = .ok (.aload_n 0, 1) := by decide +kernel
theorem dc_Mo_ways_45 : decode cd_Mo_ways 45 = .ok (.invokevirtual 117, 3) := by decide +kernel
theorem dc_Mo_ways_48 : decode cd_Mo_ways 48 = .ok (.aload_n 0, 1) := by decide +kernel
theorem dc_Mo_ways_49 : decode cd_Mo_ways 49 = .ok (.aload_n 0, 1) := by decide +kernel
theorem dc_Mo_ways_50 : decode cd_Mo_ways 50 = .ok (.getfield 13, 3) := by decide +kernel
theorem dc_Mo_ways_53 : decode cd_Mo_ways 53 = .ok (.bipush 6, 2) := by decide +kernel
theorem dc_Mo_ways_55 : decode cd_Mo_ways 55 = .ok (.iload_n 1, 1) := by decide +kernel
theorem dc_Mo_ways_56 : decode cd_Mo_ways 56 = .ok (.imul, 1) := by decide +kernel
theorem dc_Mo_ways_57 : decode cd_Mo_ways 57 = .ok (.aload_n 0, 1) := by decide +kernel
theorem dc_Mo_ways_58 : decode cd_Mo_ways 58 = .ok (.getfield 13, 3) := by decide +kernel
theorem dc_Mo_ways_61 : decode cd_Mo_ways 61 = .ok (.bipush 6, 2) := by decide +kernel
theorem dc_Mo_ways_63 : decode cd_Mo_ways 63 = .ok (.iload_n 2, 1) := by decide +kernel
theorem dc_Mo_ways_64 : decode cd_Mo_ways 64 = .ok (.imul, 1) := by decide +kernel
theorem dc_Mo_ways_65 : decode cd_Mo_ways 65 = .ok (.invokevirtual 120, 3) := by decide +kernel
theorem dc_Mo_ways_68 : decode cd_Mo_ways 68 = .ok (.aload_n 0, 1) := by decide +kernel
theorem dc_Mo_ways_69 : decode cd_Mo_ways 69 = .ok (.getfield 41, 3) := by decide +kernel
theorem dc_Mo_ways_72 : decode cd_Mo_ways 72 = .ok (.aload_n 0, 1) := by decide +kernel
theorem dc_Mo_ways_73 : decode cd_Mo_ways 73 = .ok (.getfield 95, 3) := by decide +kernel
theorem dc_Mo_ways_76 : decode cd_Mo_ways 76 = .ok (.aload_n 0, 1) := by decide +kernel
theorem dc_Mo_ways_77 : decode cd_Mo_ways 77 = .ok (.aload_n 0, 1) := by decide +kernel
theorem dc_Mo_ways_78 : decode cd_Mo_ways 78 = .ok (.getfield 45, 3) := by decide +kernel
theorem dc_Mo_ways_81 : decode cd_Mo_ways 81 = .ok (.invokevirtual 113, 3) := by decide +kernel
theorem dc_Mo_ways_84 : decode cd_Mo_ways 84 = .ok (.iadd, 1) := by decide +kernel
theorem dc_Mo_ways_85 : decode cd_Mo_ways 85 = .ok (.laload, 1) := by decide +kernel
theorem dc_Mo_ways_86 : decode cd_Mo_ways 86 = .ok (.lreturn, 1) := by decide +kernel
theorem dc_Mo_circle_0 : decode cd_Mo_circle 0 = .ok (.aload_n 0, 1) := by decide +kernel
theorem dc_Mo_circle_1 : decode cd_Mo_circle 1 = .ok (.iload_n 1, 1) := by decide +kernel
theorem dc_Mo_circle_2 : decode cd_Mo_circle 2 = .ok (.invokestatic 87, 3) := by decide +kernel
theorem dc_Mo_circle_5 : decode cd_Mo_circle 5 = .ok (.ifCond .eq 7, 3) := by decide +kernel
theorem dc_Mo_circle_8 : decode cd_Mo_circle 8 = .ok (.iconst 1, 1) := by decide +kernel
theorem dc_Mo_circle_9 : decode cd_Mo_circle 9 = .ok (.goto 16, 3) := by decide +kernel
theorem dc_Mo_circle_12 : decode cd_Mo_circle 12 = .ok (.aload_n 0, 1) := by decide +kernel
theorem dc_Mo_circle_13 : decode cd_Mo_circle 13 = .ok (.getfield 7, 3) := by decide +kernel
theorem dc_Mo_circle_16 : decode cd_Mo_circle 16 = .ok (.iconst 4, 1) := by decide +kernel
theorem dc_Mo_circle_17 : decode cd_Mo_circle 17 = .ok (.if_icmp .le 7, 3) := by decide +kernel
theorem dc_Mo_circle_20 : decode cd_Mo_circle 20 = .ok (.iconst 2, 1) := by decide +kernel
theorem dc_Mo_circle_21 : decode cd_Mo_circle 21 = .ok (.goto 4, 3) := by decide +kernel
theorem dc_Mo_circle_24 : decode cd_Mo_circle 24 = .ok (.iconst 0, 1) := by decide +kernel
theorem dc_Mo_circle_25 : decode cd_Mo_circle 25 = .ok (.putfield 75, 3) := by decide +kernel
theorem dc_Mo_circle_28 : decode cd_Mo_circle 28 = .ok (.aload_n 0, 1) := by decide +kernel
theorem dc_Mo_circle_29 : decode cd_Mo_circle 29 = .ok (.getfield 75, 3) := by decide +kernel
theorem dc_Mo_circle_32 : decode cd_Mo_circle 32 = .ok (.ifCond .le 5, 3) := by decide +kernel
theorem dc_Mo_circle_35 : decode cd_Mo_circle 35 = .ok (.iconst 0, 1) := by decide +kernel
theorem dc_Mo_circle_36 : decode cd_Mo_circle 36 = .ok (.ireturn, 1) := by decide +kernel
theorem dc_Mo_circle_37 : decode cd_Mo_circle 37 = .ok (.aload_n 0, 1) := by decide +kernel
theorem dc_Mo_circle_38 : decode cd_Mo_circle 38 = .ok (.invokevirtual 117, 3) := by decide +kernel
theorem dc_Mo_circle_41 : decode cd_Mo_circle 41 = .ok (.iconst 0, 1) := by decide +kernel
theorem dc_Mo_circle_42 : decode cd_Mo_circle 42 = .ok (.istore_n 3, 1) := by decide +kernel
theorem dc_Mo_circle_43 : decode cd_Mo_circle 43 = .ok (.iconst 0, 1) := by decide +kernel
theorem dc_Mo_circle_44 : decode cd_Mo_circle 44 = .ok (.istore 4, 2) := by decide +kernel
theorem dc_Mo_circle_46 : decode cd_Mo_circle 46 = .ok (.iload 4, 2) := by decide +kernel
theorem dc_Mo_circle_48 : decode cd_Mo_circle 48 = .ok (.aload_n 0, 1) := by decide +kernel
theorem dc_Mo_circle_49 : decode cd_Mo_circle 49 = .ok (.invokevirtual 98, 3) := by decide +kernel
theorem dc_Mo_circle_52 : decode cd_Mo_circle 52 = .ok (.if_icmp .ge 33, 3) := by decide +kernel
theorem dc_Mo_circle_55 : decode cd_Mo_circle 55 = .ok (.aload_n 0, 1) := by decide +kernel
theorem dc_Mo_circle_56 : decode cd_Mo_circle 56 = .ok (.getfield 34, 3) := by decide +kernel
theorem dc_Mo_circle_59 : decode cd_Mo_circle 59 = .ok (.aload_n 0, 1) := by decide +kernel
theorem dc_Mo_circle_60 : decode cd_Mo_circle 60 = .ok (.getfield 95, 3) := by decide +kernel
theorem dc_Mo_circle_63 : decode cd_Mo_circle 63 = .ok (.iload 4, 2) := by decide +kernel
theorem dc_Mo_circle_65 : decode cd_Mo_circle 65 = .ok (.iadd, 1) := by decide +kernel
theorem dc_Mo_circle_66 : decode cd_Mo_circle 66 = .ok (.iaload, 1) := by decide +kernel
theorem dc_Mo_circle_67 : decode cd_Mo_circle 67 = .ok (.iload_n 2, 1) := by decide +kernel
theorem dc_Mo_circle_68 : decode cd_Mo_circle 68 = .ok (.if_icmp .ne 9, 3) := by decide +kernel
theorem dc_Mo_circle_71 : decode cd_Mo_circle 71 = .ok (.iload_n 3, 1) := by decide +kernel
theorem dc_Mo_circle_72 : decode cd_Mo_circle 72 = .ok (.iconst 1, 1) := by decide +kernel
theorem dc_Mo_circle_73 : decode cd_Mo_circle 73 = .ok (.iadd, 1) := by decide +kernel
theorem dc_Mo_circle_74 : decode cd_Mo_circle 74 = .ok (.goto 4, 3) := by decide +kernel
theorem dc_Mo_circle_77 : decode cd_Mo_circle 77 = .ok (.iload_n 3, 1) := by decide +kernel
theorem dc_Mo_circle_78 : decode cd_Mo_circle 78 = .ok (.istore_n 3, 1) := by decide +kernel
theorem dc_Mo_circle_79 : decode cd_Mo_circle 79 = .ok (.iinc 4 1, 3) := by decide +kernel
theorem dc_Mo_circle_82 : decode cd_Mo_circle 82 = .ok (.goto (-36), 3) := by decide +kernel
theorem dc_Mo_circle_85 : decode cd_Mo_circle 85 = .ok (.iload_n 3, 1) := by decide +kernel
theorem dc_Mo_circle_86 : decode cd_Mo_circle 86 = .ok (.ireturn, 1) := by decide +kernel
theorem dc_Mo_isLess_0 : decode cd_Mo_isLess 0 = .ok (.iconst 0, 1) := by decide +kernel
theorem dc_Mo_isLess_1 : decode cd_Mo_isLess 1 = .ok (.istore 4, 2) := by decide +kernel
theorem dc_Mo_isLess_3 : decode cd_Mo_isLess 3 = .ok (.iload 4, 2) := by decide +kernel
theorem dc_Mo_isLess_5 : decode cd_Mo_isLess 5 = .ok (.iload_n 3, 1) := by decide +kernel
theorem dc_Mo_isLess_6 : decode cd_Mo_isLess 6 = .ok (.if_icmp .ge 41, 3) := by decide +kernel
theorem dc_Mo_isLess_9 : decode cd_Mo_isLess 9 = .ok (.aload_n 0, 1) := by decide +kernel
theorem dc_Mo_isLess_10 : decode cd_Mo_isLess 10 = .ok (.iload 4, 2) := by decide +kernel
theorem dc_Mo_isLess_12 : decode cd_Mo_isLess 12 = .ok (.iaload, 1) := by decide +kernel
theorem dc_Mo_isLess_13 : decode cd_Mo_isLess 13 = .ok (.aload_n 1, 1) := by decide +kernel
theorem dc_Mo_isLess_14 : decode cd_Mo_isLess 14 = .ok (.iload_n 2, 1) := by decide +kernel
theorem dc_Mo_isLess_15 : decode cd_Mo_isLess 15 = .ok (.iload 4, 2) := by decide +kernel
theorem dc_Mo_isLess_17 : decode cd_Mo_isLess 17 = .ok (.iadd, 1) := by decide +kernel
theorem dc_Mo_isLess_18 : decode cd_Mo_isLess 18 = .ok (.iaload, 1) := by decide +kernel
theorem dc_Mo_isLess_19 : decode cd_Mo_isLess 19 = .ok (.if_icmp .eq 22, 3) := by decide +kernel
theorem dc_Mo_isLess_22 : decode cd_Mo_isLess 22 = .ok (.aload_n 0, 1) := by decide +kernel
theorem dc_Mo_isLess_23 : decode cd_Mo_isLess 23 = .ok (.iload 4, 2) := by decide +kernel
theorem dc_Mo_isLess_25 : decode cd_Mo_isLess 25 = .ok (.iaload, 1) := by decide +kernel
theorem dc_Mo_isLess_26 : decode cd_Mo_isLess 26 = .ok (.aload_n 1, 1) := by decide +kernel
theorem dc_Mo_isLess_27 : decode cd_Mo_isLess 27 = .ok (.iload_n 2, 1) := by decide +kernel
theorem dc_Mo_isLess_28 : decode cd_Mo_isLess 28 = .ok (.iload 4, 2) := by decide +kernel
theorem dc_Mo_isLess_30 : decode cd_Mo_isLess 30 = .ok (.iadd, 1) := by decide +kernel
theorem dc_Mo_isLess_31 : decode cd_Mo_isLess 31 = .ok (.iaload, 1) := by decide +kernel
theorem dc_Mo_isLess_32 : decode cd_Mo_isLess 32 = .ok (.if_icmp .ge 7, 3) := by decide +kernel
theorem dc_Mo_isLess_35 : decode cd_Mo_isLess 35 = .ok (.iconst 1, 1) := by decide +kernel
theorem dc_Mo_isLess_36 : decode cd_Mo_isLess 36 = .ok (.goto 4, 3) := by decide +kernel
theorem dc_Mo_isLess_39 : decode cd_Mo_isLess 39 = .ok (.iconst 0, 1) := by decide +kernel
theorem dc_Mo_isLess_40 : decode cd_Mo_isLess 40 = .ok (.ireturn, 1) := by decide +kernel
theorem dc_Mo_isLess_41 : decode cd_Mo_isLess 41 = .ok (.iinc 4 1, 3) := by decide +kernel
theorem dc_Mo_isLess_44 : decode cd_Mo_isLess 44 = .ok (.goto (-41), 3) := by decide +kernel
theorem dc_Mo_isLess_47 : decode cd_Mo_isLess 47 = .ok (.iconst 0, 1) := by decide +kernel
theorem dc_Mo_isLess_48 : decode cd_Mo_isLess 48 = .ok (.ireturn, 1) := by decide +kernel
theorem dc_Mo_median_0 : decode cd_Mo_median 0 = .ok (.aload_n 0, 1) := by decide +kernel
theorem dc_Mo_median_1 : decode cd_Mo_median 1 = .ok (.iload_n 1, 1) := by decide +kernel
theorem dc_Mo_median_2 : decode cd_Mo_median 2 = .ok (.invokestatic 87, 3) := by decide +kernel
theorem dc_Mo_median_5 : decode cd_Mo_median 5 = .ok (.ifCond .ne 17, 3) := by decide +kernel
theorem dc_Mo_median_8 : decode cd_Mo_median 8 = .ok (.iload_n 2, 1) := by decide +kernel
theorem dc_Mo_median_9 : decode cd_Mo_median 9 = .ok (.invokestatic 87, 3) := by decide +kernel
theorem dc_Mo_median_12 : decode cd_Mo_median 12 = .ok (.ifCond .ne 10, 3) := by decide +kernel
theorem dc_Mo_median_15 : decode cd_Mo_median 15 = .ok (.iload_n 3, 1) := by decide +kernel
theorem dc_Mo_median_16 : decode cd_Mo_median 16 = .ok (.invokestatic 87, 3) := by decide +kernel
theorem dc_Mo_median_19 : decode cd_Mo_median 19 = .ok (.ifCond .eq 7, 3) := by decide +kernel
theorem dc_Mo_median_22 : decode cd_Mo_median 22 = .ok (.iconst 1, 1) := by decide +kernel
theorem dc_Mo_median_23 : decode cd_Mo_median 23 = .ok (.goto 16, 3) := by decide +kernel
theorem dc_Mo_median_26 : decode cd_Mo_median 26 = .ok (.aload_n 0, 1) := by decide +kernel
theorem dc_Mo_median_27 : decode cd_Mo_median 27 = .ok (.getfield 7, 3) := by decide +kernel
theorem dc_Mo_median_30 : decode cd_Mo_median 30 = .ok (.iconst 4, 1) := by decide +kernel
theorem dc_Mo_median_31 : decode cd_Mo_median 31 = .ok (.if_icmp .le 7, 3) := by decide +kernel
theorem dc_Mo_median_34 : decode cd_Mo_median 34 = .ok (.iconst 2, 1) := by decide +kernel
theorem dc_Mo_median_35 : decode cd_Mo_median 35 = .ok (.goto 4, 3) := by decide +kernel
theorem dc_Mo_median_38 : decode cd_Mo_median 38 = .ok (.iconst 0, 1) := by decide +kernel
theorem dc_Mo_median_39 : decode cd_Mo_median 39 = .ok (.putfield 75, 3) := by decide +kernel
theorem dc_Mo_median_42 : decode cd_Mo_median 42 = .ok (.aload_n 0, 1) := by decide +kernel
theorem dc_Mo_median_43 : decode cd_Mo_median 43 = .ok (.getfield 75, 3) := by decide +kernel
theorem dc_Mo_median_46 : decode cd_Mo_median 46 = .ok (.ifCond .le 5, 3) := by decide +kernel
theorem dc_Mo_median_49 : decode cd_Mo_median 49 = .ok (.iconst 0, 1) := by decide +kernel
theorem dc_Mo_median_50 : decode cd_Mo_median 50 = .ok (.ireturn, 1) := by decide +kernel
theorem dc_Mo_median_51 : decode cd_Mo_median 51 = .ok (.aload_n 0, 1) := by decide +kernel
theorem dc_Mo_median_52 : decode cd_Mo_median 52 = .ok (.invokevirtual 117, 3) := by decide +kernel
theorem dc_Mo_median_55 : decode cd_Mo_median 55 = .ok (.bipush 99, 2) := by decide +kernel
theorem dc_Mo_median_57 : decode cd_Mo_median 57 = .ok (.istore 4, 2) := by decide +kernel
theorem dc_Mo_median_59 : decode cd_Mo_median 59 = .ok (.iconst 0, 1) := by decide +kernel
theorem dc_Mo_median_60 : decode cd_Mo_median 60 = .ok (.istore 5, 2) := by decide +kernel
theorem dc_Mo_median_62 : decode cd_Mo_median 62 = .ok (.iload 5, 2) := by decide +kernel
theorem dc_Mo_median_64 : decode cd_Mo_median 64 = .ok (.aload_n 0, 1) := by decide +kernel
theorem dc_Mo_median_65 : decode cd_Mo_median 65 = .ok (.invokevirtual 98, 3) := by decide +kernel
theorem dc_Mo_median_68 : decode cd_Mo_median 68 = .ok (.if_icmp .ge 143, 3) := by decide +kernel
theorem dc_Mo_median_71 : decode cd_Mo_median 71 = .ok (.aload_n 0, 1) := by decide +kernel
theorem dc_Mo_median_72 : decode cd_Mo_median 72 = .ok (.iload 5, 2) := by decide +kernel
theorem dc_Mo_median_74 : decode cd_Mo_median 74 = .ok (.aload_n 0, 1) := by decide +kernel
theorem dc_Mo_median_75 : decode cd_Mo_median 75 = .ok (.getfield 48, 3) := by decide +kernel
theorem dc_Mo_median_78 : decode cd_Mo_median 78 = .ok (.invokevirtual 109, 3) := by decide +kernel
theorem dc_Mo_median_81 : decode cd_Mo_median 81 = .ok (.aload_n 0, 1) := by decide +kernel
theorem dc_Mo_median_82 : decode cd_Mo_median 82 = .ok (.aload_n 0, 1) := by decide +kernel
theorem dc_Mo_median_83 : decode cd_Mo_median 83 = .ok (.getfield 48, 3) := by decide +kernel
theorem dc_Mo_median_86 : decode cd_Mo_median 86 = .ok (.iconst 0, 1) := by decide +kernel
theorem dc_Mo_median_87 : decode cd_Mo_median 87 = .ok (.aload_n 0, 1) := by decide +kernel
theorem dc_Mo_median_88 : decode cd_Mo_median 88 = .ok (.getfield 13, 3) := by decide +kernel
theorem dc_Mo_median_91 : decode cd_Mo_median 91 = .ok (.bipush 6, 2) := by decide +kernel
theorem dc_Mo_median_93 : decode cd_Mo_median 93 = .ok (.iload_n 1, 1) := by decide +kernel
theorem dc_Mo_median_94 : decode cd_Mo_median 94 = .ok (.imul, 1) := by decide +kernel
theorem dc_Mo_median_95 : decode cd_Mo_median 95 = .ok (.invokevirtual 124, 3) := by decide +kernel
theorem dc_Mo_median_98 : decode cd_Mo_median 98 = .ok (.aload_n 0, 1) := by decide +kernel
theorem dc_Mo_median_99 : decode cd_Mo_median 99 = .ok (.aload_n 0, 1) := by decide +kernel
theorem dc_Mo_median_100 : decode cd_Mo_median 100 = .ok (.getfield 48, 3) := by decide +kernel
theorem dc_Mo_median_103 : decode cd_Mo_median 103 = .ok (.iconst 0, 1) := by decide +kernel
theorem dc_Mo_median_104 : decode cd_Mo_median 104 = .ok (.aload_n 0, 1) := by decide +kernel
theorem dc_Mo_median_105 : decode cd_Mo_median 105 = .ok (.getfield 13, 3) := by decide +kernel
theorem dc_Mo_median_108 : decode cd_Mo_median 108 = .ok (.bipush 6, 2) := by decide +kernel
theorem dc_Mo_median_110 : decode cd_Mo_median 110 = .ok (.iload_n 2, 1) := by decide +kernel
theorem dc_Mo_median_111 : decode cd_Mo_median 111 = .ok (.imul, 1) := by decide +kernel
theorem dc_Mo_median_112 : decode cd_Mo_median 112 = .ok (.invokevirtual 124, 3) := by decide +kernel
theorem dc_Mo_median_115 : decode cd_Mo_median 115 = .ok (.iadd, 1) := by decide +kernel
theorem dc_Mo_median_116 : decode cd_Mo_median 116 = .ok (.aload_n 0, 1) := by decide +kernel
theorem dc_Mo_median_117 : decode cd_Mo_median 117 = .ok (.aload_n 0, 1) := by decide +kernel
theorem dc_Mo_median_118 : decode cd_Mo_median 118 = .ok (.getfield 48, 3) := by decide +kernel
theorem dc_Mo_median_121 : decode cd_Mo_median 121 = .ok (.iconst 0, 1) := by decide +kernel
theorem dc_Mo_median_122 : decode cd_Mo_median 122 = .ok (.aload_n 0, 1) := by decide +kernel
theorem dc_Mo_median_123 : decode cd_Mo_median 123 = .ok (.getfield 13, 3) := by decide +kernel
theorem dc_Mo_median_126 : decode cd_Mo_median 126 = .ok (.bipush 6, 2) := by decide +kernel
theorem dc_Mo_median_128 : decode cd_Mo_median 128 = .ok (.iload_n 3, 1) := by decide +kernel
theorem dc_Mo_median_129 : decode cd_Mo_median 129 = .ok (.imul, 1) := by decide +kernel
theorem dc_Mo_median_130 : decode cd_Mo_median 130 = .ok (.invokevirtual 124, 3) := by decide +kernel
theorem dc_Mo_median_133 : decode cd_Mo_median 133 = .ok (.iadd, 1) := by decide +kernel
theorem dc_Mo_median_134 : decode cd_Mo_median 134 = .ok (.istore 6, 2) := by decide +kernel
theorem dc_Mo_median_136 : decode cd_Mo_median 136 = .ok (.iload 6, 2) := by decide +kernel
theorem dc_Mo_median_138 : decode cd_Mo_median 138 = .ok (.iload 4, 2) := by decide +kernel
theorem dc_Mo_median_140 : decode cd_Mo_median 140 = .ok (.if_icmp .lt 29, 3) := by decide +kernel
theorem dc_Mo_median_143 : decode cd_Mo_median 143 = .ok (.iload 6, 2) := by decide +kernel
theorem dc_Mo_median_145 : decode cd_Mo_median 145 = .ok (.iload 4, 2) := by decide +kernel
theorem dc_Mo_median_147 : decode cd_Mo_median 147 = .ok (.if_icmp .ne 58, 3) := by decide +kernel
theorem dc_Mo_median_150 : decode cd_Mo_median 150 = .ok (.aload_n 0, 1) := by decide +kernel
theorem dc_Mo_median_151 : decode cd_Mo_median 151 = .ok (.getfield 48, 3) := by decide +kernel
theorem dc_Mo_median_154 : decode cd_Mo_median 154 = .ok (.aload_n 0, 1) := by decide +kernel
theorem dc_Mo_median_155 : decode cd_Mo_median 155 = .ok (.getfield 51, 3) := by decide +kernel
theorem dc_Mo_median_158 : decode cd_Mo_median 158 = .ok (.iconst 0, 1) := by decide +kernel
theorem dc_Mo_median_159 : decode cd_Mo_median 159 = .ok (.aload_n 0, 1) := by decide +kernel
theorem dc_Mo_median_160 : decode cd_Mo_median 160 = .ok (.getfield 7, 3) := by decide +kernel
theorem dc_Mo_median_163 : decode cd_Mo_median 163 = .ok (.invokestatic 161, 3) := by decide +kernel
theorem dc_Mo_median_166 : decode cd_Mo_median 166 = .ok (.ifCond .eq 39, 3) := by decide +kernel
theorem dc_Mo_median_169 : decode cd_Mo_median 169 = .ok (.iload 6, 2) := by decide +kernel
theorem dc_Mo_median_171 : decode cd_Mo_median 171 = .ok (.istore 4, 2) := by decide +kernel
theorem dc_Mo_median_173 : decode cd_Mo_median 173 = .ok (.iconst 0, 1) := by decide +kernel
theorem dc_Mo_median_174 : decode cd_Mo_median 174 = .ok (.istore 7, 2) := by decide +kernel
theorem dc_Mo_median_176 : decode cd_Mo_median 176 = .ok (.iload 7, 2) := by decide +kernel
theorem dc_Mo_median_178 : decode cd_Mo_median 178 = .ok (.aload_n 0, 1) := by decide +kernel
theorem dc_Mo_median_179 : decode cd_Mo_median 179 = .ok (.getfield 7, 3) := by decide +kernel
theorem dc_Mo_median_182 : decode cd_Mo_median 182 = .ok (.if_icmp .ge 23, 3) := by decide +kernel
theorem dc_Mo_median_185 : decode cd_Mo_median 185 = .ok (.aload_n 0, 1) := by decide +kernel
theorem dc_Mo_median_186 : decode cd_Mo_median 186 = .ok (.getfield 51, 3) := by decide +kernel
theorem dc_Mo_median_189 : decode cd_Mo_median 189 = .ok (.iload 7, 2) := by decide +kernel
theorem dc_Mo_median_191 : decode cd_Mo_median 191 = .ok (.aload_n 0, 1) := by decide +kernel
theorem dc_Mo_median_192 : decode cd_Mo_median 192 = .ok (.getfield 48, 3) := by decide +kernel
theorem dc_Mo_median_195 : decode cd_Mo_median 195 = .ok (.iload 7, 2) := by decide +kernel
theorem dc_Mo_median_197 : decode cd_Mo_median 197 = .ok (.iaload, 1) := by decide +kernel
theorem dc_Mo_median_198 : decode cd_Mo_median 198 = .ok (.iastore, 1) := by decide +kernel
theorem dc_Mo_median_199 : decode cd_Mo_median 199 = .ok (.iinc 7 1, 3) := by decide +kernel
theorem dc_Mo_median_202 : decode cd_Mo_median 202 = .ok (.goto (-26), 3) := by decide +kernel
theorem dc_Mo_median_205 : decode cd_Mo_median 205 = .ok (.iinc 5 1, 3) := by decide +kernel
theorem dc_Mo_median_208 : decode cd_Mo_median 208 = .ok (.goto (-146), 3) := by decide +kernel
theorem dc_Mo_median_211 : decode cd_Mo_median 211 = .ok (.iconst 0, 1) := by decide +kernel
theorem dc_Mo_median_212 : decode cd_Mo_median 212 = .ok (.istore 5, 2) := by decide +kernel
theorem dc_Mo_median_214 : decode cd_Mo_median 214 = .ok (.iload 5, 2) := by decide +kernel
theorem dc_Mo_median_216 : decode cd_Mo_median 216 = .ok (.aload_n 0, 1) := by decide +kernel
theorem dc_Mo_median_217 : decode cd_Mo_median 217 = .ok (.getfield 7, 3) := by decide +kernel
theorem dc_Mo_median_220 : decode cd_Mo_median 220 = .ok (.if_icmp .ge 26, 3) := by decide +kernel
theorem dc_Mo_median_223 : decode cd_Mo_median 223 = .ok (.aload_n 0, 1) := by decide +kernel
theorem dc_Mo_median_224 : decode cd_Mo_median 224 = .ok (.getfield 13, 3) := by decide +kernel
theorem dc_Mo_median_227 : decode cd_Mo_median 227 = .ok (.bipush 24, 2) := by decide +kernel
theorem dc_Mo_median_229 : decode cd_Mo_median 229 = .ok (.iload 5, 2) := by decide +kernel
theorem dc_Mo_median_231 : decode cd_Mo_median 231 = .ok (.iadd, 1) := by decide +kernel
theorem dc_Mo_median_232 : decode cd_Mo_median 232 = .ok (.aload_n 0, 1) := by decide +kernel
theorem dc_Mo_median_233 : decode cd_Mo_median 233 = .ok (.getfield 51, 3) := by decide +kernel
theorem dc_Mo_median_236 : decode cd_Mo_median 236 = .ok (.iload 5, 2) := by decide +kernel
theorem dc_Mo_median_238 : decode cd_Mo_median 238 = .ok (.iaload, 1) := by decide +kernel
theorem dc_Mo_median_239 : decode cd_Mo_median 239 = .ok (.iastore, 1) := by decide +kernel
theorem dc_Mo_median_240 : decode cd_Mo_median 240 = .ok (.iinc 5 1, 3) := by decide +kernel
theorem dc_Mo_median_243 : decode cd_Mo_median 243 = .ok (.goto (-29), 3) := by decide +kernel
theorem dc_Mo_median_246 : decode cd_Mo_median 246 = .ok (.aload_n 0, 1) := by decide +kernel
theorem dc_Mo_median_247 : decode cd_Mo_median 247 = .ok (.getfield 17, 3) := by decide +kernel
theorem dc_Mo_median_250 : decode cd_Mo_median 250 = .ok (.iconst 4, 1) := by decide +kernel
theorem dc_Mo_median_251 : decode cd_Mo_median 251 = .ok (.iconst 0, 1) := by decide +kernel
theorem dc_Mo_median_252 : decode cd_Mo_median 252 = .ok (.iastore, 1) := by decide +kernel
theorem dc_Mo_median_253 : decode cd_Mo_median 253 = .ok (.iload 4, 2) := by decide +kernel
theorem dc_Mo_median_255 : decode cd_Mo_median 255 = .ok (.ireturn, 1) := by decide +kernel
theorem dc_Ch_init_0 : decode cd_Ch_init 0 = .ok (.aload_n 0, 1) := by decide +kernel
theorem dc_Ch_init_1 : decode cd_Ch_init 1 = .ok (.invokespecial 3, 3) := by decide +kernel
theorem dc_Ch_init_4 : decode cd_Ch_init 4 = .ok (.aload_n 0, 1) := by decide +kernel
theorem dc_Ch_init_5 : decode cd_Ch_init 5 = .ok (.iload_n 1, 1) := by decide +kernel
theorem dc_Ch_init_6 : decode cd_Ch_init 6 = .ok (.putfield 9, 3) := by decide +kernel
theorem dc_Ch_init_9 : decode cd_Ch_init 9 = .ok (.iconst 1, 1) := by decide +kernel
theorem dc_Ch_init_10 : decode cd_Ch_init 10 = .ok (.istore_n 2, 1) := by decide +kernel
theorem dc_Ch_init_11 : decode cd_Ch_init 11 = .ok (.iconst 1, 1) := by decide +kernel
theorem dc_Ch_init_12 : decode cd_Ch_init 12 = .ok (.istore_n 3, 1) := by decide +kernel
theorem dc_Ch_init_13 : decode cd_Ch_init 13 = .ok (.iload_n 3, 1) := by decide +kernel
theorem dc_Ch_init_14 : decode cd_Ch_init 14 = .ok (.iload_n 1, 1) := by decide +kernel
theorem dc_Ch_init_15 : decode cd_Ch_init 15 = .ok (.if_icmp .gt 15, 3) := by decide +kernel
theorem dc_Ch_init_18 : decode cd_Ch_init 18 = .ok (.iload_n 2, 1) := by decide +kernel
theorem dc_Ch_init_19 : decode cd_Ch_init 19 = .ok (.iconst 2, 1) := by decide +kernel
theorem dc_Ch_init_20 : decode cd_Ch_init 20 = .ok (.iload_n 3, 1) := by decide +kernel
theorem dc_Ch_init_21 : decode cd_Ch_init 21 = .ok (.imul, 1) := by decide +kernel
theorem dc_Ch_init_22 : decode cd_Ch_init 22 = .ok (.imul, 1) := by decide +kernel
theorem dc_Ch_init_23 : decode cd_Ch_init 23 = .ok (.istore_n 2, 1) := by decide +kernel
theorem dc_Ch_init_24 : decode cd_Ch_init 24 = .ok (.iinc 3 1, 3) := by decide +kernel
theorem dc_Ch_init_27 : decode cd_Ch_init 27 = .ok (.goto (-14), 3) := by decide +kernel
theorem dc_Ch_init_30 : decode cd_Ch_init 30 = .ok (.aload_n 0, 1) := by decide +kernel
theorem dc_Ch_init_31 : decode cd_Ch_init 31 = .ok (.iload_n 2, 1) := by decide +kernel
theorem dc_Ch_init_32 : decode cd_Ch_init 32 = .ok (.putfield 15, 3) := by decide +kernel
theorem dc_Ch_init_35 : decode cd_Ch_init 35 = .ok (.aload_n 0, 1) := by decide +kernel
theorem dc_Ch_init_36 : decode cd_Ch_init 36 = .ok (.iload_n 2, 1) := by decide +kernel
theorem dc_Ch_init_37 : decode cd_Ch_init 37 = .ok (.newarray .int, 2) := by decide +kernel
theorem dc_Ch_init_39 : decode cd_Ch_init 39 = .ok (.putfield 18, 3) := by decide +kernel
theorem dc_Ch_init_42 : decode cd_Ch_init 42 = .ok (.aload_n 0, 1) := by decide +kernel
theorem dc_Ch_init_43 : decode cd_Ch_init 43 = .ok (.iload_n 2, 1) := by decide +kernel
theorem dc_Ch_init_44 : decode cd_Ch_init 44 = .ok (.newarray .long, 2) := by decide +kernel
theorem dc_Ch_init_46 : decode cd_Ch_init 46 = .ok (.putfield 22, 3) := by decide +kernel
theorem dc_Ch_init_49 : decode cd_Ch_init 49 = .ok (.aload_n 0, 1) := by decide +kernel
theorem dc_Ch_init_50 : decode cd_Ch_init 50 = .ok (.bipush 6, 2) := by decide +kernel
theorem dc_Ch_init_52 : decode cd_Ch_init 52 = .ok (.newarray .int, 2) := by decide +kernel
theorem dc_Ch_init_54 : decode cd_Ch_init 54 = .ok (.putfield 26, 3) := by decide +kernel
theorem dc_Ch_init_57 : decode cd_Ch_init 57 = .ok (.return_, 1) := by decide +kernel
theorem dc_Ch_measure_0 : decode cd_Ch_measure 0 = .ok (.iconst 0, 1) := by decide +kernel
theorem dc_Ch_measure_1 : decode cd_Ch_measure 1 = .ok (.istore_n 2, 1) := by decide +kernel
theorem dc_Ch_measure_2 : decode cd_Ch_measure 2 = .ok (.iload_n 2, 1) := by decide +kernel
theorem dc_Ch_measure_3 : decode cd_Ch_measure 3 = .ok (.aload_n 0, 1) := by decide +kernel
theorem dc_Ch_measure_4 : decode cd_Ch_measure 4 = .ok (.getfield 15, 3) := by decide +kernel
theorem dc_Ch_measure_7 : decode cd_Ch_measure 7 = .ok (.if_icmp .ge 40, 3) := by decide +kernel
theorem dc_Ch_measure_10 : decode cd_Ch_measure 10 = .ok (.aload_n 0, 1) := by decide +kernel
theorem dc_Ch_measure_11 : decode cd_Ch_measure 11 = .ok (.iload_n 2, 1) := by decide +kernel
theorem dc_Ch_measure_12 : decode cd_Ch_measure 12 = .ok (.aload_n 0, 1) := by decide +kernel
theorem dc_Ch_measure_13 : decode cd_Ch_measure 13 = .ok (.getfield 26, 3) := by decide +kernel
theorem dc_Ch_measure_16 : decode cd_Ch_measure 16 = .ok (.invokevirtual 29, 3) := by decide +kernel
theorem dc_Ch_measure_19 : decode cd_Ch_measure 19 = .ok (.aload_n 1, 1) := by decide +kernel
theorem dc_Ch_measure_20 : decode cd_Ch_measure 20 = .ok (.aload_n 0, 1) := by decide +kernel
theorem dc_Ch_measure_21 : decode cd_Ch_measure 21 = .ok (.getfield 26, 3) := by decide +kernel
theorem dc_Ch_measure_24 : decode cd_Ch_measure 24 = .ok (.aload_n 0, 1) := by decide +kernel
theorem dc_Ch_measure_25 : decode cd_Ch_measure 25 = .ok (.getfield 9, 3) := by decide +kernel
theorem dc_Ch_measure_28 : decode cd_Ch_measure 28 = .ok (.invokevirtual 33, 3) := by decide +kernel
theorem dc_Ch_measure_31 : decode cd_Ch_measure 31 = .ok (.aload_n 0, 1) := by decide +kernel
theorem dc_Ch_measure_32 : decode cd_Ch_measure 32 = .ok (.getfield 18, 3) := by decide +kernel
theorem dc_Ch_measure_35 : decode cd_Ch_measure 35 = .ok (.iload_n 2, 1) := by decide +kernel
theorem dc_Ch_measure_36 : decode cd_Ch_measure 36 = .ok (.aload_n 1, 1) := by decide +kernel
theorem dc_Ch_measure_37 : decode cd_Ch_measure 37 = .ok (.invokevirtual 39, 3) := by decide +kernel
theorem dc_Ch_measure_40 : decode cd_Ch_measure 40 = .ok (.iastore, 1) := by decide +kernel
theorem dc_Ch_measure_41 : decode cd_Ch_measure 41 = .ok (.iinc 2 1, 3) := by decide +kernel
theorem dc_Ch_measure_44 : decode cd_Ch_measure 44 = .ok (.goto (-42), 3) := by decide +kernel
theorem dc_Ch_measure_47 : decode cd_Ch_measure 47 = .ok (.return_, 1) := by decide +kernel
theorem dc_Ch_indexOf_0 : decode cd_Ch_indexOf 0 = .ok (.iconst 0, 1) := by decide +kernel
theorem dc_Ch_indexOf_1 : decode cd_Ch_indexOf 1 = .ok (.istore_n 2, 1) := by decide +kernel
theorem dc_Ch_indexOf_2 : decode cd_Ch_indexOf 2 = .ok (.iconst 0, 1) := by decide +kernel
theorem dc_Ch_indexOf_3 : decode cd_Ch_indexOf 3 = .ok (.istore_n 3, 1) := by decide +kernel
theorem dc_Ch_indexOf_4 : decode cd_Ch_indexOf 4 = .ok (.iload_n 3, 1) := by decide +kernel
theorem dc_Ch_indexOf_5 : decode cd_Ch_indexOf 5 = .ok (.aload_n 0, 1) := by decide +kernel
theorem dc_Ch_indexOf_6 : decode cd_Ch_indexOf 6 = .ok (.getfield 9, 3) := by decide +kernel
theorem dc_Ch_indexOf_9 : decode cd_Ch_indexOf 9 = .ok (.if_icmp .ge 92, 3) := by decide +kernel
theorem dc_Ch_indexOf_12 : decode cd_Ch_indexOf 12 = .ok (.aload_n 0, 1) := by decide +kernel
theorem dc_Ch_indexOf_13 : decode cd_Ch_indexOf 13 = .ok (.getfield 9, 3) := by decide +kernel
theorem dc_Ch_indexOf_16 : decode cd_Ch_indexOf 16 = .ok (.iload_n 3, 1) := by decide +kernel
theorem dc_Ch_indexOf_17 : decode cd_Ch_indexOf 17 = .ok (.isub, 1) := by decide +kernel
theorem dc_Ch_indexOf_18 : decode cd_Ch_indexOf 18 = .ok (.istore 4, 2) := by decide +kernel
theorem dc_Ch_indexOf_20 : decode cd_Ch_indexOf 20 = .ok (.iconst 0, 1) := by decide +kernel
theorem dc_Ch_indexOf_21 : decode cd_Ch_indexOf 21 = .ok (.istore 5, 2) := by decide +kernel
theorem dc_Ch_indexOf_23 : decode cd_Ch_indexOf 23 = .ok (.iload_n 3, 1) := by decide +kernel
theorem dc_Ch_indexOf_24 : decode cd_Ch_indexOf 24 = .ok (.iconst 1, 1) := by decide +kernel
theorem dc_Ch_indexOf_25 : decode cd_Ch_indexOf 25 = .ok (.iadd, 1) := by decide +kernel
theorem dc_Ch_indexOf_26 : decode cd_Ch_indexOf 26 = .ok (.istore 6, 2) := by decide +kernel
theorem dc_Ch_indexOf_28 : decode cd_Ch_indexOf 28 = .ok (.iload 6, 2) := by decide +kernel
theorem dc_Ch_indexOf_30 : decode cd_Ch_indexOf 30 = .ok (.aload_n 0, 1) := by decide +kernel
theorem dc_Ch_indexOf_31 : decode cd_Ch_indexOf 31 = .ok (.getfield 9, 3) := by decide +kernel
theorem dc_Ch_indexOf_34 : decode cd_Ch_indexOf 34 = .ok (.if_icmp .ge 28, 3) := by decide +kernel
theorem dc_Ch_indexOf_37 : decode cd_Ch_indexOf 37 = .ok (.aload_n 1, 1) := by decide +kernel
theorem dc_Ch_indexOf_38 : decode cd_Ch_indexOf 38 = .ok (.iload 6, 2) := by decide +kernel
theorem dc_Ch_indexOf_40 : decode cd_Ch_indexOf 40 = .ok (.iaload, 1) := by decide +kernel
theorem dc_Ch_indexOf_41 : decode cd_Ch_indexOf 41 = .ok (.invokestatic 43, 3) := by decide +kernel
theorem dc_Ch_indexOf_44 : decode cd_Ch_indexOf 44 = .ok (.aload_n 1, 1) := by decide +kernel
theorem dc_Ch_indexOf_45 : decode cd_Ch_indexOf 45 = .ok (.iload_n 3, 1) := by decide +kernel
theorem dc_Ch_indexOf_46 : decode cd_Ch_indexOf 46 = .ok (.iaload, 1) := by decide +kernel
theorem dc_Ch_indexOf_47 : decode cd_Ch_indexOf 47 = .ok (.invokestatic 43, 3) := by decide +kernel
theorem dc_Ch_indexOf_50 : decode cd_Ch_indexOf 50 = .ok (.if_icmp .ge 6, 3) := by decide +kernel
theorem dc_Ch_indexOf_53 : decode cd_Ch_indexOf 53 = .ok (.iinc 5 1, 3) := by decide +kernel
theorem dc_Ch_indexOf_56 : decode cd_Ch_indexOf 56 = .ok (.iinc 6 1, 3) := by decide +kernel
theorem dc_Ch_indexOf_59 : decode cd_Ch_indexOf 59 = .ok (.goto (-31), 3) := by decide +kernel
theorem dc_Ch_indexOf_62 : decode cd_Ch_indexOf 62 = .ok (.aload_n 1, 1) := by decide +kernel
theorem dc_Ch_indexOf_63 : decode cd_Ch_indexOf 63 = .ok (.iload_n 3, 1) := by decide +kernel
theorem dc_Ch_indexOf_64 : decode cd_Ch_indexOf 64 = .ok (.iaload, 1) := by decide +kernel
theorem dc_Ch_indexOf_65 : decode cd_Ch_indexOf 65 = .ok (.ifCond .le 11, 3) := by decide +kernel
theorem dc_Ch_indexOf_68 : decode cd_Ch_indexOf 68 = .ok (.iload 4, 2) := by decide +kernel
theorem dc_Ch_indexOf_70 : decode cd_Ch_indexOf 70 = .ok (.iload 5, 2) := by decide +kernel
theorem dc_Ch_indexOf_72 : decode cd_Ch_indexOf 72 = .ok (.iadd, 1) := by decide +kernel
theorem dc_Ch_indexOf_73 : decode cd_Ch_indexOf 73 = .ok (.goto 10, 3) := by decide +kernel
theorem dc_Ch_indexOf_76 : decode cd_Ch_indexOf 76 = .ok (.iload 4, 2) := by decide +kernel
theorem dc_Ch_indexOf_78 : decode cd_Ch_indexOf 78 = .ok (.iconst 1, 1) := by decide +kernel
theorem dc_Ch_indexOf_79 : decode cd_Ch_indexOf 79 = .ok (.isub, 1) := by decide +kernel
theorem dc_Ch_indexOf_80 : decode cd_Ch_indexOf 80 = .ok (.iload 5, 2) := by decide +kernel
theorem dc_Ch_indexOf_82 : decode cd_Ch_indexOf 82 = .ok (.isub, 1) := by decide +kernel
theorem dc_Ch_indexOf_83 : decode cd_Ch_indexOf 83 = .ok (.istore 6, 2) := by decide +kernel
theorem dc_Ch_indexOf_85 : decode cd_Ch_indexOf 85 = .ok (.iload_n 2, 1) := by decide +kernel
theorem dc_Ch_indexOf_86 : decode cd_Ch_indexOf 86 = .ok (.iconst 2, 1) := by decide +kernel
theorem dc_Ch_indexOf_87 : decode cd_Ch_indexOf 87 = .ok (.imul, 1) := by decide +kernel
theorem dc_Ch_indexOf_88 : decode cd_Ch_indexOf 88 = .ok (.iload 4, 2) := by decide +kernel
theorem dc_Ch_indexOf_90 : decode cd_Ch_indexOf 90 = .ok (.imul, 1) := by decide +kernel
theorem dc_Ch_indexOf_91 : decode cd_Ch_indexOf 91 = .ok (.iload 6, 2) := by decide +kernel
theorem dc_Ch_indexOf_93 : decode cd_Ch_indexOf 93 = .ok (.iadd, 1) := by decide +kernel
theorem dc_Ch_indexOf_94 : decode cd_Ch_indexOf 94 = .ok (.istore_n 2, 1) := by decide +kernel
theorem dc_Ch_indexOf_95 : decode cd_Ch_indexOf 95 = .ok (.iinc 3 1, 3) := by decide +kernel
theorem dc_Ch_indexOf_98 : decode cd_Ch_indexOf 98 = .ok (.goto (-94), 3) := by decide +kernel
theorem dc_Ch_indexOf_101 : decode cd_Ch_indexOf 101 = .ok (.iload_n 2, 1) := by decide +kernel
theorem dc_Ch_indexOf_102 : decode cd_Ch_indexOf 102 = .ok (.ireturn, 1) := by decide +kernel
