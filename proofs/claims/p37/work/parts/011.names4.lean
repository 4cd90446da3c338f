theorem dL_areCompared_43 : decode cL_areCompared 43 = .ok (.aload_n 0, 1) := by decide +kernel
theorem dL_areCompared_44 : decode cL_areCompared 44 = .ok (.iload_n 2, 1) := by decide +kernel
theorem dL_areCompared_45 : decode cL_areCompared 45 = .ok (.iload 7, 2) := by decide +kernel
theorem dL_areCompared_47 : decode cL_areCompared 47 = .ok (.invokevirtual 47, 3) := by decide +kernel
theorem dL_areCompared_50 : decode cL_areCompared 50 = .ok (.if_icmp .lt 24, 3) := by decide +kernel
theorem dL_areCompared_53 : decode cL_areCompared 53 = .ok (.aload_n 0, 1) := by decide +kernel
theorem dL_areCompared_54 : decode cL_areCompared 54 = .ok (.iload_n 1, 1) := by decide +kernel
theorem dL_areCompared_55 : decode cL_areCompared 55 = .ok (.iload 7, 2) := by decide +kernel
theorem dL_areCompared_57 : decode cL_areCompared 57 = .ok (.invokevirtual 50, 3) := by decide +kernel
theorem dL_areCompared_60 : decode cL_areCompared 60 = .ok (.aload_n 0, 1) := by decide +kernel
theorem dL_areCompared_61 : decode cL_areCompared 61 = .ok (.iload_n 2, 1) := by decide +kernel
theorem dL_areCompared_62 : decode cL_areCompared 62 = .ok (.iload 7, 2) := by decide +kernel
theorem dL_areCompared_64 : decode cL_areCompared 64 = .ok (.invokevirtual 50, 3) := by decide +kernel
theorem dL_areCompared_67 : decode cL_areCompared 67 = .ok (.if_icmp .gt 7, 3) := by decide +kernel
theorem dL_areCompared_70 : decode cL_areCompared 70 = .ok (.iconst 1, 1) := by decide +kernel
theorem dL_areCompared_71 : decode cL_areCompared 71 = .ok (.goto 4, 3) := by decide +kernel
theorem dL_areCompared_74 : decode cL_areCompared 74 = .ok (.iconst 0, 1) := by decide +kernel
theorem dL_areCompared_75 : decode cL_areCompared 75 = .ok (.istore 5, 2) := by decide +kernel
theorem dL_areCompared_77 : decode cL_areCompared 77 = .ok (.iload 6, 2) := by decide +kernel
theorem dL_areCompared_79 : decode cL_areCompared 79 = .ok (.ifCond .eq 41, 3) := by decide +kernel
theorem dL_areCompared_82 : decode cL_areCompared 82 = .ok (.aload_n 0, 1) := by decide +kernel
theorem dL_areCompared_83 : decode cL_areCompared 83 = .ok (.iload_n 1, 1) := by decide +kernel
theorem dL_areCompared_84 : decode cL_areCompared 84 = .ok (.iload 7, 2) := by decide +kernel
theorem dL_areCompared_86 : decode cL_areCompared 86 = .ok (.invokevirtual 47, 3) := by decide +kernel
theorem dL_areCompared_89 : decode cL_areCompared 89 = .ok (.aload_n 0, 1) := by decide +kernel
theorem dL_areCompared_90 : decode cL_areCompared 90 = .ok (.iload_n 2, 1) := by decide +kernel
theorem dL_areCompared_91 : decode cL_areCompared 91 = .ok (.iload 7, 2) := by decide +kernel
theorem dL_areCompared_93 : decode cL_areCompared 93 = .ok (.invokevirtual 50, 3) := by decide +kernel
theorem dL_areCompared_96 : decode cL_areCompared 96 = .ok (.if_icmp .gt 24, 3) := by decide +kernel
theorem dL_areCompared_99 : decode cL_areCompared 99 = .ok (.aload_n 0, 1) := by decide +kernel
theorem dL_areCompared_100 : decode cL_areCompared 100 = .ok (.iload_n 2, 1) := by decide +kernel
theorem dL_areCompared_101 : decode cL_areCompared 101 = .ok (.iload 7, 2) := by decide +kernel
theorem dL_areCompared_103 : decode cL_areCompared 103 = .ok (.invokevirtual 47, 3) := by decide +kernel
theorem dL_areCompared_106 : decode cL_areCompared 106 = .ok (.aload_n 0, 1) := by decide +kernel
theorem dL_areCompared_107 : decode cL_areCompared 107 = .ok (.iload_n 1, 1) := by decide +kernel
theorem dL_areCompared_108 : decode cL_areCompared 108 = .ok (.iload 7, 2) := by decide +kernel
theorem dL_areCompared_110 : decode cL_areCompared 110 = .ok (.invokevirtual 50, 3) := by decide +kernel
theorem dL_areCompared_113 : decode cL_areCompared 113 = .ok (.if_icmp .gt 7, 3) := by decide +kernel
theorem dL_areCompared_116 : decode cL_areCompared 116 = .ok (.iconst 1, 1) := by decide +kernel
theorem dL_areCompared_117 : decode cL_areCompared 117 = .ok (.goto 4, 3) := by decide +kernel
theorem dL_areCompared_120 : decode cL_areCompared 120 = .ok (.iconst 0, 1) := by decide +kernel
theorem dL_areCompared_121 : decode cL_areCompared 121 = .ok (.istore 6, 2) := by decide +kernel
theorem dL_areCompared_123 : decode cL_areCompared 123 = .ok (.iinc 7 1, 3) := by decide +kernel
theorem dL_areCompared_126 : decode cL_areCompared 126 = .ok (.goto (-102), 3) := by decide +kernel
theorem dL_areCompared_129 : decode cL_areCompared 129 = .ok (.iload_n 3, 1) := by decide +kernel
theorem dL_areCompared_130 : decode cL_areCompared 130 = .ok (.ifCond .eq 8, 3) := by decide +kernel
theorem dL_areCompared_133 : decode cL_areCompared 133 = .ok (.iload_n 3, 1) := by decide +kernel
theorem dL_areCompared_134 : decode cL_areCompared 134 = .ok (.iconst 1, 1) := by decide +kernel
theorem dL_areCompared_135 : decode cL_areCompared 135 = .ok (.if_icmp .ne 7, 3) := by decide +kernel
theorem dL_areCompared_138 : decode cL_areCompared 138 = .ok (.iconst 1, 1) := by decide +kernel
theorem dL_areCompared_139 : decode cL_areCompared 139 = .ok (.goto 4, 3) := by decide +kernel
theorem dL_areCompared_142 : decode cL_areCompared 142 = .ok (.iconst 0, 1) := by decide +kernel
theorem dL_areCompared_143 : decode cL_areCompared 143 = .ok (.iload 5, 2) := by decide +kernel
theorem dL_areCompared_145 : decode cL_areCompared 145 = .ok (.if_icmp .ne 54, 3) := by decide +kernel
theorem dL_areCompared_148 : decode cL_areCompared 148 = .ok (.iload_n 3, 1) := by decide +kernel
theorem dL_areCompared_149 : decode cL_areCompared 149 = .ok (.iconst 4, 1) := by decide +kernel
theorem dL_areCompared_150 : decode cL_areCompared 150 = .ok (.if_icmp .ne 7, 3) := by decide +kernel
theorem dL_areCompared_153 : decode cL_areCompared 153 = .ok (.iconst 1, 1) := by decide +kernel
theorem dL_areCompared_154 : decode cL_areCompared 154 = .ok (.goto 4, 3) := by decide +kernel
theorem dL_areCompared_157 : decode cL_areCompared 157 = .ok (.iconst 0, 1) := by decide +kernel
theorem dL_areCompared_158 : decode cL_areCompared 158 = .ok (.iload 6, 2) := by decide +kernel
theorem dL_areCompared_160 : decode cL_areCompared 160 = .ok (.ifCond .ne 7, 3) := by decide +kernel
theorem dL_areCompared_163 : decode cL_areCompared 163 = .ok (.iconst 1, 1) := by decide +kernel
theorem dL_areCompared_164 : decode cL_areCompared 164 = .ok (.goto 4, 3) := by decide +kernel
theorem dL_areCompared_167 : decode cL_areCompared 167 = .ok (.iconst 0, 1) := by decide +kernel
theorem dL_areCompared_168 : decode cL_areCompared 168 = .ok (.if_icmp .ne 31, 3) := by decide +kernel
theorem dL_areCompared_171 : decode cL_areCompared 171 = .ok (.iload 4, 2) := by decide +kernel
theorem dL_areCompared_173 : decode cL_areCompared 173 = .ok (.iload_n 3, 1) := by decide +kernel
theorem dL_areCompared_174 : decode cL_areCompared 174 = .ok (.iconst 1, 1) := by decide +kernel
theorem dL_areCompared_175 : decode cL_areCompared 175 = .ok (.if_icmp .ne 7, 3) := by decide +kernel
theorem dL_areCompared_178 : decode cL_areCompared 178 = .ok (.iconst 2, 1) := by decide +kernel
theorem dL_areCompared_179 : decode cL_areCompared 179 = .ok (.goto 13, 3) := by decide +kernel
theorem dL_areCompared_182 : decode cL_areCompared 182 = .ok (.iload_n 3, 1) := by decide +kernel
theorem dL_areCompared_183 : decode cL_areCompared 183 = .ok (.iconst 2, 1) := by decide +kernel
theorem dL_areCompared_184 : decode cL_areCompared 184 = .ok (.if_icmp .ne 7, 3) := by decide +kernel
theorem dL_areCompared_187 : decode cL_areCompared 187 = .ok (.iconst 1, 1) := by decide +kernel
theorem dL_areCompared_188 : decode cL_areCompared 188 = .ok (.goto 4, 3) := by decide +kernel
theorem dL_areCompared_191 : decode cL_areCompared 191 = .ok (.iload_n 3, 1) := by decide +kernel
theorem dL_areCompared_192 : decode cL_areCompared 192 = .ok (.if_icmp .ne 7, 3) := by decide +kernel
theorem dL_areCompared_195 : decode cL_areCompared 195 = .ok (.iconst 1, 1) := by decide +kernel
theorem dL_areCompared_196 : decode cL_areCompared 196 = .ok (.goto 4, 3) := by decide +kernel
theorem dL_areCompared_199 : decode cL_areCompared 199 = .ok (.iconst 0, 1) := by decide +kernel
theorem dL_areCompared_200 : decode cL_areCompared 200 = .ok (.ireturn, 1) := by decide +kernel
theorem dL_areContradictions_0 : decode cL_areContradictions 0 = .ok (.iconst (-1), 1) := by decide +kernel
theorem dL_areContradictions_1 : decode cL_areContradictions 1 = .ok (.istore_n 1, 1) := by decide +kernel
theorem dL_areContradictions_2 : decode cL_areContradictions 2 = .ok (.aload_n 0, 1) := by decide +kernel
theorem dL_areContradictions_3 : decode cL_areContradictions 3 = .ok (.iconst (-1), 1) := by decide +kernel
theorem dL_areContradictions_4 : decode cL_areContradictions 4 = .ok (.invokevirtual 85, 3) := by decide +kernel
theorem dL_areContradictions_7 : decode cL_areContradictions 7 = .ok (.ldc 88, 2) := by decide +kernel
theorem dL_areContradictions_9 : decode cL_areContradictions 9 = .ok (.if_icmp .ne 7, 3) := by decide +kernel
theorem dL_areContradictions_12 : decode cL_areContradictions 12 = .ok (.iconst 1, 1) := by decide +kernel
theorem dL_areContradictions_13 : decode cL_areContradictions 13 = .ok (.goto 4, 3) := by decide +kernel
theorem dL_areContradictions_16 : decode cL_areContradictions 16 = .ok (.iconst 0, 1) := by decide +kernel
theorem dL_areContradictions_17 : decode cL_areContradictions 17 = .ok (.istore_n 2, 1) := by decide +kernel
theorem dL_areContradictions_18 : decode cL_areContradictions 18 = .ok (.iconst 0, 1) := by decide +kernel
theorem dL_areContradictions_19 : decode cL_areContradictions 19 = .ok (.istore_n 3, 1) := by decide +kernel
theorem dL_areContradictions_20 : decode cL_areContradictions 20 = .ok (.iload_n 3, 1) := by decide +kernel
theorem dL_areContradictions_21 : decode cL_areContradictions 21 = .ok (.bipush 120, 2) := by decide +kernel
theorem dL_areContradictions_23 : decode cL_areContradictions 23 = .ok (.if_icmp .ge 108, 3) := by decide +kernel
theorem dL_areContradictions_26 : decode cL_areContradictions 26 = .ok (.aload_n 0, 1) := by decide +kernel
theorem dL_areContradictions_27 : decode cL_areContradictions 27 = .ok (.iload_n 3, 1) := by decide +kernel
theorem dL_areContradictions_28 : decode cL_areContradictions 28 = .ok (.invokevirtual 85, 3) := by decide +kernel
theorem dL_areContradictions_31 : decode cL_areContradictions 31 = .ok (.ldc 40, 2) := by decide +kernel
theorem dL_areContradictions_33 : decode cL_areContradictions 33 = .ok (.if_icmp .eq 98, 3) := by decide +kernel
theorem dL_areContradictions_36 : decode cL_areContradictions 36 = .ok (.aload_n 0, 1) := by decide +kernel
theorem dL_areContradictions_37 : decode cL_areContradictions 37 = .ok (.iload_n 3, 1) := by decide +kernel
theorem dL_areContradictions_38 : decode cL_areContradictions 38 = .ok (.invokevirtual 85, 3) := by decide +kernel
theorem dL_areContradictions_41 : decode cL_areContradictions 41 = .ok (.istore 4, 2) := by decide +kernel
theorem dL_areContradictions_43 : decode cL_areContradictions 43 = .ok (.iload 4, 2) := by decide +kernel
theorem dL_areContradictions_45 : decode cL_areContradictions 45 = .ok (.bipush 100, 2) := by decide +kernel
theorem dL_areContradictions_47 : decode cL_areContradictions 47 = .ok (.idiv, 1) := by decide +kernel
theorem dL_areContradictions_48 : decode cL_areContradictions 48 = .ok (.istore 5, 2) := by decide +kernel
theorem dL_areContradictions_50 : decode cL_areContradictions 50 = .ok (.iload 4, 2) := by decide +kernel
theorem dL_areContradictions_52 : decode cL_areContradictions 52 = .ok (.bipush 100, 2) := by decide +kernel
theorem dL_areContradictions_54 : decode cL_areContradictions 54 = .ok (.irem, 1) := by decide +kernel
theorem dL_areContradictions_55 : decode cL_areContradictions 55 = .ok (.istore 6, 2) := by decide +kernel
theorem dL_areContradictions_57 : decode cL_areContradictions 57 = .ok (.iload_n 2, 1) := by decide +kernel
theorem dL_areContradictions_58 : decode cL_areContradictions 58 = .ok (.ifCond .eq 62, 3) := by decide +kernel
theorem dL_areContradictions_61 : decode cL_areContradictions 61 = .ok (.iload 4, 2) := by decide +kernel
theorem dL_areContradictions_63 : decode cL_areContradictions 63 = .ok (.iload_n 1, 1) := by decide +kernel
theorem dL_areContradictions_64 : decode cL_areContradictions 64 = .ok (.if_icmp .le 56, 3) := by decide +kernel
theorem dL_areContradictions_67 : decode cL_areContradictions 67 = .ok (.iload 5, 2) := by decide +kernel
theorem dL_areContradictions_69 : decode cL_areContradictions 69 = .ok (.iload 6, 2) := by decide +kernel
theorem dL_areContradictions_71 : decode cL_areContradictions 71 = .ok (.if_icmp .ge 49, 3) := by decide +kernel
theorem dL_areContradictions_74 : decode cL_areContradictions 74 = .ok (.aload_n 0, 1) := by decide +kernel
theorem dL_areContradictions_75 : decode cL_areContradictions 75 = .ok (.iload 5, 2) := by decide +kernel
theorem dL_areContradictions_77 : decode cL_areContradictions 77 = .ok (.invokevirtual 66, 3) := by decide +kernel
theorem dL_areContradictions_80 : decode cL_areContradictions 80 = .ok (.aload_n 0, 1) := by decide +kernel
theorem dL_areContradictions_81 : decode cL_areContradictions 81 = .ok (.iload 6, 2) := by decide +kernel
theorem dL_areContradictions_83 : decode cL_areContradictions 83 = .ok (.invokevirtual 66, 3) := by decide +kernel
theorem dL_areContradictions_86 : decode cL_areContradictions 86 = .ok (.if_icmp .ne 34, 3) := by decide +kernel
theorem dL_areContradictions_89 : decode cL_areContradictions 89 = .ok (.aload_n 0, 1) := by decide +kernel
theorem dL_areContradictions_90 : decode cL_areContradictions 90 = .ok (.iload 5, 2) := by decide +kernel
theorem dL_areContradictions_92 : decode cL_areContradictions 92 = .ok (.invokevirtual 59, 3) := by decide +kernel
theorem dL_areContradictions_95 : decode cL_areContradictions 95 = .ok (.aload_n 0, 1) := by decide +kernel
theorem dL_areContradictions_96 : decode cL_areContradictions 96 = .ok (.iload 6, 2) := by decide +kernel
theorem dL_areContradictions_98 : decode cL_areContradictions 98 = .ok (.invokevirtual 59, 3) := by decide +kernel
theorem dL_areContradictions_101 : decode cL_areContradictions 101 = .ok (.if_icmp .eq 19, 3) := by decide +kernel
theorem dL_areContradictions_104 : decode cL_areContradictions 104 = .ok (.aload_n 0, 1) := by decide +kernel
theorem dL_areContradictions_105 : decode cL_areContradictions 105 = .ok (.iload 5, 2) := by decide +kernel
theorem dL_areContradictions_107 : decode cL_areContradictions 107 = .ok (.iload 6, 2) := by decide +kernel
theorem dL_areContradictions_109 : decode cL_areContradictions 109 = .ok (.invokevirtual 82, 3) := by decide +kernel
theorem dL_areContradictions_112 : decode cL_areContradictions 112 = .ok (.iconst 3, 1) := by decide +kernel
theorem dL_areContradictions_113 : decode cL_areContradictions 113 = .ok (.if_icmp .ne 7, 3) := by decide +kernel
theorem dL_areContradictions_116 : decode cL_areContradictions 116 = .ok (.iconst 1, 1) := by decide +kernel
theorem dL_areContradictions_117 : decode cL_areContradictions 117 = .ok (.goto 4, 3) := by decide +kernel
theorem dL_areContradictions_120 : decode cL_areContradictions 120 = .ok (.iconst 0, 1) := by decide +kernel
theorem dL_areContradictions_121 : decode cL_areContradictions 121 = .ok (.istore_n 2, 1) := by decide +kernel
theorem dL_areContradictions_122 : decode cL_areContradictions 122 = .ok (.iload 4, 2) := by decide +kernel
theorem dL_areContradictions_124 : decode cL_areContradictions 124 = .ok (.istore_n 1, 1) := by decide +kernel
theorem dL_areContradictions_125 : decode cL_areContradictions 125 = .ok (.iinc 3 1, 3) := by decide +kernel
theorem dL_areContradictions_128 : decode cL_areContradictions 128 = .ok (.goto (-108), 3) := by decide +kernel
theorem dL_areContradictions_131 : decode cL_areContradictions 131 = .ok (.iload_n 2, 1) := by decide +kernel
theorem dL_areContradictions_132 : decode cL_areContradictions 132 = .ok (.ireturn, 1) := by decide +kernel
theorem dL_isForetold_0 : decode cL_isForetold 0 = .ok (.aload_n 0, 1) := by decide +kernel
theorem dL_isForetold_1 : decode cL_isForetold 1 = .ok (.iload_n 1, 1) := by decide +kernel
theorem dL_isForetold_2 : decode cL_isForetold 2 = .ok (.invokevirtual 76, 3) := by decide +kernel
theorem dL_isForetold_5 : decode cL_isForetold 5 = .ok (.istore 4, 2) := by decide +kernel
theorem dL_isForetold_7 : decode cL_isForetold 7 = .ok (.aload_n 0, 1) := by decide +kernel
theorem dL_isForetold_8 : decode cL_isForetold 8 = .ok (.iload_n 1, 1) := by decide +kernel
theorem dL_isForetold_9 : decode cL_isForetold 9 = .ok (.iload_n 2, 1) := by decide +kernel
theorem dL_isForetold_10 : decode cL_isForetold 10 = .ok (.invokevirtual 89, 3) := by decide +kernel
theorem dL_isForetold_13 : decode cL_isForetold 13 = .ok (.istore 5, 2) := by decide +kernel
theorem dL_isForetold_15 : decode cL_isForetold 15 = .ok (.aload_n 0, 1) := by decide +kernel
theorem dL_isForetold_16 : decode cL_isForetold 16 = .ok (.iload_n 1, 1) := by decide +kernel
theorem dL_isForetold_17 : decode cL_isForetold 17 = .ok (.iload_n 2, 1) := by decide +kernel
theorem dL_isForetold_18 : decode cL_isForetold 18 = .ok (.iload_n 3, 1) := by decide +kernel
theorem dL_isForetold_19 : decode cL_isForetold 19 = .ok (.invokevirtual 92, 3) := by decide +kernel
theorem dL_isForetold_22 : decode cL_isForetold 22 = .ok (.istore 6, 2) := by decide +kernel
theorem dL_isForetold_24 : decode cL_isForetold 24 = .ok (.iload_n 2, 1) := by decide +kernel
theorem dL_isForetold_25 : decode cL_isForetold 25 = .ok (.iconst 4, 1) := by decide +kernel
theorem dL_isForetold_26 : decode cL_isForetold 26 = .ok (.if_icmp .ge 9, 3) := by decide +kernel
theorem dL_isForetold_29 : decode cL_isForetold 29 = .ok (.sipush (-9999), 3) := by decide +kernel
theorem dL_isForetold_32 : decode cL_isForetold 32 = .ok (.goto 4, 3) := by decide +kernel
theorem dL_isForetold_35 : decode cL_isForetold 35 = .ok (.iconst 0, 1) := by decide +kernel
theorem dL_isForetold_36 : decode cL_isForetold 36 = .ok (.istore 7, 2) := by decide +kernel
theorem dL_isForetold_38 : decode cL_isForetold 38 = .ok (.aload_n 0, 1) := by decide +kernel
theorem dL_isForetold_39 : decode cL_isForetold 39 = .ok (.iload_n 1, 1) := by decide +kernel
theorem dL_isForetold_40 : decode cL_isForetold 40 = .ok (.iload_n 2, 1) := by decide +kernel
theorem dL_isForetold_41 : decode cL_isForetold 41 = .ok (.aload_n 0, 1) := by decide +kernel
theorem dL_isForetold_42 : decode cL_isForetold 42 = .ok (.iload_n 2, 1) := by decide +kernel
theorem dL_isForetold_43 : decode cL_isForetold 43 = .ok (.invokevirtual 44, 3) := by decide +kernel
theorem dL_isForetold_46 : decode cL_isForetold 46 = .ok (.invokevirtual 95, 3) := by decide +kernel
theorem dL_isForetold_49 : decode cL_isForetold 49 = .ok (.iload 4, 2) := by decide +kernel
theorem dL_isForetold_51 : decode cL_isForetold 51 = .ok (.if_icmp .ne 7, 3) := by decide +kernel
theorem dL_isForetold_54 : decode cL_isForetold 54 = .ok (.iconst 1, 1) := by decide +kernel
theorem dL_isForetold_55 : decode cL_isForetold 55 = .ok (.goto 4, 3) := by decide +kernel
theorem dL_isForetold_58 : decode cL_isForetold 58 = .ok (.iconst 0, 1) := by decide +kernel
theorem dL_isForetold_59 : decode cL_isForetold 59 = .ok (.istore 8, 2) := by decide +kernel
theorem dL_isForetold_61 : decode cL_isForetold 61 = .ok (.iload 8, 2) := by decide +kernel
theorem dL_isForetold_63 : decode cL_isForetold 63 = .ok (.ifCond .eq 52, 3) := by decide +kernel
theorem dL_isForetold_66 : decode cL_isForetold 66 = .ok (.iload 5, 2) := by decide +kernel
theorem dL_isForetold_68 : decode cL_isForetold 68 = .ok (.ldc 40, 2) := by decide +kernel
theorem dL_isForetold_70 : decode cL_isForetold 70 = .ok (.if_icmp .eq 41, 3) := by decide +kernel
theorem dL_isForetold_73 : decode cL_isForetold 73 = .ok (.iload 5, 2) := by decide +kernel
theorem dL_isForetold_75 : decode cL_isForetold 75 = .ok (.aload_n 0, 1) := by decide +kernel
theorem dL_isForetold_76 : decode cL_isForetold 76 = .ok (.iload_n 2, 1) := by decide +kernel
theorem dL_isForetold_77 : decode cL_isForetold 77 = .ok (.invokevirtual 44, 3) := by decide +kernel
theorem dL_isForetold_80 : decode cL_isForetold 80 = .ok (.if_icmp .le 35, 3) := by decide +kernel
theorem dL_isForetold_83 : decode cL_isForetold 83 = .ok (.aload_n 0, 1) := by decide +kernel
theorem dL_isForetold_84 : decode cL_isForetold 84 = .ok (.iload_n 1, 1) := by decide +kernel
theorem dL_isForetold_85 : decode cL_isForetold 85 = .ok (.iload_n 2, 1) := by decide +kernel
theorem dL_isForetold_86 : decode cL_isForetold 86 = .ok (.iload 5, 2) := by decide +kernel
theorem dL_isForetold_88 : decode cL_isForetold 88 = .ok (.invokevirtual 95, 3) := by decide +kernel
theorem dL_isForetold_91 : decode cL_isForetold 91 = .ok (.iload 4, 2) := by decide +kernel
theorem dL_isForetold_93 : decode cL_isForetold 93 = .ok (.if_icmp .eq 22, 3) := by decide +kernel
theorem dL_isForetold_96 : decode cL_isForetold 96 = .ok (.aload_n 0, 1) := by decide +kernel
theorem dL_isForetold_97 : decode cL_isForetold 97 = .ok (.iload_n 1, 1) := by decide +kernel
theorem dL_isForetold_98 : decode cL_isForetold 98 = .ok (.iload_n 2, 1) := by decide +kernel
theorem dL_isForetold_99 : decode cL_isForetold 99 = .ok (.iload 5, 2) := by decide +kernel
theorem dL_isForetold_101 : decode cL_isForetold 101 = .ok (.iconst 1, 1) := by decide +kernel
theorem dL_isForetold_102 : decode cL_isForetold 102 = .ok (.isub, 1) := by decide +kernel
theorem dL_isForetold_103 : decode cL_isForetold 103 = .ok (.invokevirtual 95, 3) := by decide +kernel
theorem dL_isForetold_106 : decode cL_isForetold 106 = .ok (.iload 4, 2) := by decide +kernel
theorem dL_isForetold_108 : decode cL_isForetold 108 = .ok (.if_icmp .ne 7, 3) := by decide +kernel
theorem dL_isForetold_111 : decode cL_isForetold 111 = .ok (.iconst 1, 1) := by decide +kernel
theorem dL_isForetold_112 : decode cL_isForetold 112 = .ok (.goto 4, 3) := by decide +kernel
theorem dL_isForetold_115 : decode cL_isForetold 115 = .ok (.iconst 0, 1) := by decide +kernel
theorem dL_isForetold_116 : decode cL_isForetold 116 = .ok (.istore 8, 2) := by decide +kernel
theorem dL_isForetold_118 : decode cL_isForetold 118 = .ok (.iload 8, 2) := by decide +kernel
theorem dL_isForetold_120 : decode cL_isForetold 120 = .ok (.ifCond .eq 38, 3) := by decide +kernel
theorem dL_isForetold_123 : decode cL_isForetold 123 = .ok (.iload 5, 2) := by decide +kernel
theorem dL_isForetold_125 : decode cL_isForetold 125 = .ok (.ldc 40, 2) := by decide +kernel
theorem dL_isForetold_127 : decode cL_isForetold 127 = .ok (.if_icmp .ne 27, 3) := by decide +kernel
theorem dL_isForetold_130 : decode cL_isForetold 130 = .ok (.aload_n 0, 1) := by decide +kernel
theorem dL_isForetold_131 : decode cL_isForetold 131 = .ok (.iload_n 1, 1) := by decide +kernel
theorem dL_isForetold_132 : decode cL_isForetold 132 = .ok (.iload_n 2, 1) := by decide +kernel
theorem dL_isForetold_133 : decode cL_isForetold 133 = .ok (.iload_n 2, 1) := by decide +kernel
theorem dL_isForetold_134 : decode cL_isForetold 134 = .ok (.iconst 4, 1) := by decide +kernel
theorem dL_isForetold_135 : decode cL_isForetold 135 = .ok (.if_icmp .ge 9, 3) := by decide +kernel
theorem dL_isForetold_138 : decode cL_isForetold 138 = .ok (.sipush 9999, 3) := by decide +kernel
theorem dL_isForetold_141 : decode cL_isForetold 141 = .ok (.goto 5, 3) := by decide +kernel
theorem dL_isForetold_144 : decode cL_isForetold 144 = .ok (.ldc 98, 2) := by decide +kernel
theorem dL_isForetold_146 : decode cL_isForetold 146 = .ok (.invokevirtual 95, 3) := by decide +kernel
theorem dL_isForetold_149 : decode cL_isForetold 149 = .ok (.iload 4, 2) := by decide +kernel
theorem dL_isForetold_151 : decode cL_isForetold 151 = .ok (.if_icmp .ne 7, 3) := by decide +kernel
theorem dL_isForetold_154 : decode cL_isForetold 154 = .ok (.iconst 1, 1) := by decide +kernel
theorem dL_isForetold_155 : decode cL_isForetold 155 = .ok (.goto 4, 3) := by decide +kernel
theorem dL_isForetold_158 : decode cL_isForetold 158 = .ok (.iconst 0, 1) := by decide +kernel
theorem dL_isForetold_159 : decode cL_isForetold 159 = .ok (.istore 8, 2) := by decide +kernel
theorem dL_isForetold_161 : decode cL_isForetold 161 = .ok (.iload 8, 2) := by decide +kernel
theorem dL_isForetold_163 : decode cL_isForetold 163 = .ok (.ifCond .eq 56, 3) := by decide +kernel
theorem dL_isForetold_166 : decode cL_isForetold 166 = .ok (.iload 6, 2) := by decide +kernel
theorem dL_isForetold_168 : decode cL_isForetold 168 = .ok (.ldc 40, 2) := by decide +kernel
theorem dL_isForetold_170 : decode cL_isForetold 170 = .ok (.if_icmp .ne 12, 3) := by decide +kernel
theorem dL_isForetold_173 : decode cL_isForetold 173 = .ok (.iload 4, 2) := by decide +kernel
theorem dL_isForetold_175 : decode cL_isForetold 175 = .ok (.iload_n 3, 1) := by decide +kernel
theorem dL_isForetold_176 : decode cL_isForetold 176 = .ok (.if_icmp .eq 43, 3) := by decide +kernel
theorem dL_isForetold_179 : decode cL_isForetold 179 = .ok (.goto 36, 3) := by decide +kernel
theorem dL_isForetold_182 : decode cL_isForetold 182 = .ok (.aload_n 0, 1) := by decide +kernel
theorem dL_isForetold_183 : decode cL_isForetold 183 = .ok (.iload_n 1, 1) := by decide +kernel
theorem dL_isForetold_184 : decode cL_isForetold 184 = .ok (.iload_n 2, 1) := by decide +kernel
theorem dL_isForetold_185 : decode cL_isForetold 185 = .ok (.iload 6, 2) := by decide +kernel
theorem dL_isForetold_187 : decode cL_isForetold 187 = .ok (.invokevirtual 95, 3) := by decide +kernel
theorem dL_isForetold_190 : decode cL_isForetold 190 = .ok (.iload_n 3, 1) := by decide +kernel
theorem dL_isForetold_191 : decode cL_isForetold 191 = .ok (.if_icmp .ne 28, 3) := by decide +kernel
theorem dL_isForetold_194 : decode cL_isForetold 194 = .ok (.iload 6, 2) := by decide +kernel
theorem dL_isForetold_196 : decode cL_isForetold 196 = .ok (.iload 7, 2) := by decide +kernel
theorem dL_isForetold_198 : decode cL_isForetold 198 = .ok (.if_icmp .eq 17, 3) := by decide +kernel
theorem dL_isForetold_201 : decode cL_isForetold 201 = .ok (.aload_n 0, 1) := by decide +kernel
theorem dL_isForetold_202 : decode cL_isForetold 202 = .ok (.iload_n 1, 1) := by decide +kernel
theorem dL_isForetold_203 : decode cL_isForetold 203 = .ok (.iload_n 2, 1) := by decide +kernel
theorem dL_isForetold_204 : decode cL_isForetold 204 = .ok (.iload 6, 2) := by decide +kernel
theorem dL_isForetold_206 : decode cL_isForetold 206 = .ok (.iconst 1, 1) := by decide +kernel
theorem dL_isForetold_207 : decode cL_isForetold 207 = .ok (.isub, 1) := by decide +kernel
theorem dL_isForetold_208 : decode cL_isForetold 208 = .ok (.invokevirtual 95, 3) := by decide +kernel
theorem dL_isForetold_211 : decode cL_isForetold 211 = .ok (.iload_n 3, 1) := by decide +kernel
theorem dL_isForetold_212 : decode cL_isForetold 212 = .ok (.if_icmp .eq 7, 3) := by decide +kernel
theorem dL_isForetold_215 : decode cL_isForetold 215 = .ok (.iconst 1, 1) := by decide +kernel
theorem dL_isForetold_216 : decode cL_isForetold 216 = .ok (.goto 4, 3) := by decide +kernel
theorem dL_isForetold_219 : decode cL_isForetold 219 = .ok (.iconst 0, 1) := by decide +kernel
theorem dL_isForetold_220 : decode cL_isForetold 220 = .ok (.ireturn, 1) := by decide +kernel
theorem dL_isMatter_0 : decode cL_isMatter 0 = .ok (.aload_n 0, 1) := by decide +kernel
theorem dL_isMatter_1 : decode cL_isMatter 1 = .ok (.iload_n 1, 1) := by decide +kernel
theorem dL_isMatter_2 : decode cL_isMatter 2 = .ok (.invokevirtual 99, 3) := by decide +kernel
theorem dL_isMatter_5 : decode cL_isMatter 5 = .ok (.istore_n 2, 1) := by decide +kernel
theorem dL_isMatter_6 : decode cL_isMatter 6 = .ok (.aload_n 0, 1) := by decide +kernel
theorem dL_isMatter_7 : decode cL_isMatter 7 = .ok (.iload_n 1, 1) := by decide +kernel
theorem dL_isMatter_8 : decode cL_isMatter 8 = .ok (.invokevirtual 66, 3) := by decide +kernel
theorem dL_isMatter_11 : decode cL_isMatter 11 = .ok (.bipush 10, 2) := by decide +kernel
theorem dL_isMatter_13 : decode cL_isMatter 13 = .ok (.if_icmp .lt 13, 3) := by decide +kernel
theorem dL_isMatter_16 : decode cL_isMatter 16 = .ok (.iload_n 2, 1) := by decide +kernel
theorem dL_isMatter_17 : decode cL_isMatter 17 = .ok (.ifCond .ne 7, 3) := by decide +kernel
theorem dL_isMatter_20 : decode cL_isMatter 20 = .ok (.iconst 1, 1) := by decide +kernel
theorem dL_isMatter_21 : decode cL_isMatter 21 = .ok (.goto 4, 3) := by decide +kernel
theorem dL_isMatter_24 : decode cL_isMatter 24 = .ok (.iconst 0, 1) := by decide +kernel
theorem dL_isMatter_25 : decode cL_isMatter 25 = .ok (.ireturn, 1) := by decide +kernel
theorem dL_isMatter_26 : decode cL_isMatter 26 = .ok (.iconst 4, 1) := by decide +kernel
theorem dL_isMatter_27 : decode cL_isMatter 27 = .ok (.newarray .int, 2) := by decide +kernel
theorem dL_isMatter_29 : decode cL_isMatter 29 = .ok (.astore_n 3, 1) := by decide +kernel
theorem dL_isMatter_30 : decode cL_isMatter 30 = .ok (.iconst 0, 1) := by decide +kernel
theorem dL_isMatter_31 : decode cL_isMatter 31 = .ok (.istore 4, 2) := by decide +kernel
theorem dL_isMatter_33 : decode cL_isMatter 33 = .ok (.iload 4, 2) := by decide +kernel
theorem dL_isMatter_35 : decode cL_isMatter 35 = .ok (.iconst 4, 1) := by decide +kernel
theorem dL_isMatter_36 : decode cL_isMatter 36 = .ok (.if_icmp .ge 19, 3) := by decide +kernel
theorem dL_isMatter_39 : decode cL_isMatter 39 = .ok (.aload_n 3, 1) := by decide +kernel
theorem dL_isMatter_40 : decode cL_isMatter 40 = .ok (.iload 4, 2) := by decide +kernel
theorem dL_isMatter_42 : decode cL_isMatter 42 = .ok (.aload_n 0, 1) := by decide +kernel
theorem dL_isMatter_43 : decode cL_isMatter 43 = .ok (.iload 4, 2) := by decide +kernel
theorem dL_isMatter_45 : decode cL_isMatter 45 = .ok (.invokevirtual 76, 3) := by decide +kernel
theorem dL_isMatter_48 : decode cL_isMatter 48 = .ok (.iastore, 1) := by decide +kernel
theorem dL_isMatter_49 : decode cL_isMatter 49 = .ok (.iinc 4 1, 3) := by decide +kernel
theorem dL_isMatter_52 : decode cL_isMatter 52 = .ok (.goto (-19), 3) := by decide +kernel
theorem dL_isMatter_55 : decode cL_isMatter 55 = .ok (.aload_n 0, 1) := by decide +kernel
theorem dL_isMatter_56 : decode cL_isMatter 56 = .ok (.iload_n 1, 1) := by decide +kernel
theorem dL_isMatter_57 : decode cL_isMatter 57 = .ok (.invokevirtual 102, 3) := by decide +kernel
theorem dL_isMatter_60 : decode cL_isMatter 60 = .ok (.istore 4, 2) := by decide +kernel
theorem dL_isMatter_62 : decode cL_isMatter 62 = .ok (.iconst 0, 1) := by decide +kernel
theorem dL_isMatter_63 : decode cL_isMatter 63 = .ok (.istore 5, 2) := by decide +kernel
theorem dL_isMatter_65 : decode cL_isMatter 65 = .ok (.iconst 0, 1) := by decide +kernel
theorem dL_isMatter_66 : decode cL_isMatter 66 = .ok (.istore 6, 2) := by decide +kernel
theorem dL_isMatter_68 : decode cL_isMatter 68 = .ok (.iload 6, 2) := by decide +kernel
theorem dL_isMatter_70 : decode cL_isMatter 70 = .ok (.iconst 4, 1) := by decide +kernel
theorem dL_isMatter_71 : decode cL_isMatter 71 = .ok (.if_icmp .ge 33, 3) := by decide +kernel
theorem dL_isMatter_74 : decode cL_isMatter 74 = .ok (.aload_n 0, 1) := by decide +kernel
theorem dL_isMatter_75 : decode cL_isMatter 75 = .ok (.iload 6, 2) := by decide +kernel
theorem dL_isMatter_77 : decode cL_isMatter 77 = .ok (.invokevirtual 76, 3) := by decide +kernel
theorem dL_isMatter_80 : decode cL_isMatter 80 = .ok (.aload_n 3, 1) := by decide +kernel
theorem dL_isMatter_81 : decode cL_isMatter 81 = .ok (.iload 6, 2) := by decide +kernel
theorem dL_isMatter_83 : decode cL_isMatter 83 = .ok (.iaload, 1) := by decide +kernel
theorem dL_isMatter_84 : decode cL_isMatter 84 = .ok (.if_icmp .eq 10, 3) := by decide +kernel
theorem dL_isMatter_87 : decode cL_isMatter 87 = .ok (.iload 5, 2) := by decide +kernel
theorem dL_isMatter_89 : decode cL_isMatter 89 = .ok (.iconst 1, 1) := by decide +kernel
theorem dL_isMatter_90 : decode cL_isMatter 90 = .ok (.iadd, 1) := by decide +kernel
theorem dL_isMatter_91 : decode cL_isMatter 91 = .ok (.goto 5, 3) := by decide +kernel
theorem dL_isMatter_94 : decode cL_isMatter 94 = .ok (.iload 5, 2) := by decide +kernel
theorem dL_isMatter_96 : decode cL_isMatter 96 = .ok (.istore 5, 2) := by decide +kernel
theorem dL_isMatter_98 : decode cL_isMatter 98 = .ok (.iinc 6 1, 3) := by decide +kernel
theorem dL_isMatter_101 : decode cL_isMatter 101 = .ok (.goto (-33), 3) := by decide +kernel
theorem dL_isMatter_104 : decode cL_isMatter 104 = .ok (.iload 5, 2) := by decide +kernel
theorem dL_isMatter_106 : decode cL_isMatter 106 = .ok (.iload_n 2, 1) := by decide +kernel
theorem dL_isMatter_107 : decode cL_isMatter 107 = .ok (.if_icmp .ne 34, 3) := by decide +kernel
theorem dL_isMatter_110 : decode cL_isMatter 110 = .ok (.iload 4, 2) := by decide +kernel
theorem dL_isMatter_112 : decode cL_isMatter 112 = .ok (.aload_n 0, 1) := by decide +kernel
theorem dL_isMatter_113 : decode cL_isMatter 113 = .ok (.invokevirtual 73, 3) := by decide +kernel
theorem dL_isMatter_116 : decode cL_isMatter 116 = .ok (.if_icmp .ne 25, 3) := by decide +kernel
theorem dL_isMatter_119 : decode cL_isMatter 119 = .ok (.aload_n 0, 1) := by decide +kernel
theorem dL_isMatter_120 : decode cL_isMatter 120 = .ok (.invokevirtual 105, 3) := by decide +kernel
theorem dL_isMatter_123 : decode cL_isMatter 123 = .ok (.ifCond .lt 18, 3) := by decide +kernel
theorem dL_isMatter_126 : decode cL_isMatter 126 = .ok (.aload_n 0, 1) := by decide +kernel
theorem dL_isMatter_127 : decode cL_isMatter 127 = .ok (.invokevirtual 73, 3) := by decide +kernel
theorem dL_isMatter_130 : decode cL_isMatter 130 = .ok (.iload 4, 2) := by decide +kernel
theorem dL_isMatter_132 : decode cL_isMatter 132 = .ok (.iconst 1, 1) := by decide +kernel
theorem dL_isMatter_133 : decode cL_isMatter 133 = .ok (.iadd, 1) := by decide +kernel
theorem dL_isMatter_134 : decode cL_isMatter 134 = .ok (.if_icmp .ne 7, 3) := by decide +kernel
theorem dL_isMatter_137 : decode cL_isMatter 137 = .ok (.iconst 1, 1) := by decide +kernel
theorem dL_isMatter_138 : decode cL_isMatter 138 = .ok (.goto 4, 3) := by decide +kernel
theorem dL_isMatter_141 : decode cL_isMatter 141 = .ok (.iconst 0, 1) := by decide +kernel
theorem dL_isMatter_142 : decode cL_isMatter 142 = .ok (.ireturn, 1) := by decide +kernel
theorem dL_areAlike_0 : decode cL_areAlike 0 = .ok (.aload_n 0, 1) := by decide +kernel
theorem dL_areAlike_1 : decode cL_areAlike 1 = .ok (.invokevirtual 73, 3) := by decide +kernel
theorem dL_areAlike_4 : decode cL_areAlike 4 = .ok (.aload_n 1, 1) := by decide +kernel
theorem dL_areAlike_5 : decode cL_areAlike 5 = .ok (.invokevirtual 73, 3) := by decide +kernel
theorem dL_areAlike_8 : decode cL_areAlike 8 = .ok (.if_icmp .ne 7, 3) := by decide +kernel
theorem dL_areAlike_11 : decode cL_areAlike 11 = .ok (.iconst 1, 1) := by decide +kernel
theorem dL_areAlike_12 : decode cL_areAlike 12 = .ok (.goto 4, 3) := by decide +kernel
theorem dL_areAlike_15 : decode cL_areAlike 15 = .ok (.iconst 0, 1) := by decide +kernel
theorem dL_areAlike_16 : decode cL_areAlike 16 = .ok (.istore_n 2, 1) := by decide +kernel
theorem dL_areAlike_17 : decode cL_areAlike 17 = .ok (.iconst 0, 1) := by decide +kernel
theorem dL_areAlike_18 : decode cL_areAlike 18 = .ok (.istore_n 3, 1) := by decide +kernel
theorem dL_areAlike_19 : decode cL_areAlike 19 = .ok (.iload_n 3, 1) := by decide +kernel
theorem dL_areAlike_20 : decode cL_areAlike 20 = .ok (.iconst 4, 1) := by decide +kernel
theorem dL_areAlike_21 : decode cL_areAlike 21 = .ok (.if_icmp .ge 45, 3) := by decide +kernel
theorem dL_areAlike_24 : decode cL_areAlike 24 = .ok (.iload_n 2, 1) := by decide +kernel
theorem dL_areAlike_25 : decode cL_areAlike 25 = .ok (.ifCond .eq 33, 3) := by decide +kernel
theorem dL_areAlike_28 : decode cL_areAlike 28 = .ok (.aload_n 0, 1) := by decide +kernel
theorem dL_areAlike_29 : decode cL_areAlike 29 = .ok (.iload_n 3, 1) := by decide +kernel
theorem dL_areAlike_30 : decode cL_areAlike 30 = .ok (.invokevirtual 76, 3) := by decide +kernel
theorem dL_areAlike_33 : decode cL_areAlike 33 = .ok (.aload_n 1, 1) := by decide +kernel
theorem dL_areAlike_34 : decode cL_areAlike 34 = .ok (.iload_n 3, 1) := by decide +kernel
theorem dL_areAlike_35 : decode cL_areAlike 35 = .ok (.invokevirtual 76, 3) := by decide +kernel
theorem dL_areAlike_38 : decode cL_areAlike 38 = .ok (.if_icmp .ne 20, 3) := by decide +kernel
theorem dL_areAlike_41 : decode cL_areAlike 41 = .ok (.aload_n 0, 1) := by decide +kernel
theorem dL_areAlike_42 : decode cL_areAlike 42 = .ok (.iload_n 3, 1) := by decide +kernel
theorem dL_areAlike_43 : decode cL_areAlike 43 = .ok (.invokevirtual 79, 3) := by decide +kernel
theorem dL_areAlike_46 : decode cL_areAlike 46 = .ok (.aload_n 1, 1) := by decide +kernel
theorem dL_areAlike_47 : decode cL_areAlike 47 = .ok (.iload_n 3, 1) := by decide +kernel
theorem dL_areAlike_48 : decode cL_areAlike 48 = .ok (.invokevirtual 79, 3) := by decide +kernel
theorem dL_areAlike_51 : decode cL_areAlike 51 = .ok (.if_icmp .ne 7, 3) := by decide +kernel
theorem dL_areAlike_54 : decode cL_areAlike 54 = .ok (.iconst 1, 1) := by decide +kernel
theorem dL_areAlike_55 : decode cL_areAlike 55 = .ok (.goto 4, 3) := by decide +kernel
theorem dL_areAlike_58 : decode cL_areAlike 58 = .ok (.iconst 0, 1) := by decide +kernel
theorem dL_areAlike_59 : decode cL_areAlike 59 = .ok (.istore_n 2, 1) := by decide +kernel
theorem dL_areAlike_60 : decode cL_areAlike 60 = .ok (.iinc 3 1, 3) := by decide +kernel
theorem dL_areAlike_63 : decode cL_areAlike 63 = .ok (.goto (-44), 3) := by decide +kernel
theorem dL_areAlike_66 : decode cL_areAlike 66 = .ok (.iconst 0, 1) := by decide +kernel
theorem dL_areAlike_67 : decode cL_areAlike 67 = .ok (.istore_n 3, 1) := by decide +kernel
theorem dL_areAlike_68 : decode cL_areAlike 68 = .ok (.iload_n 3, 1) := by decide +kernel
theorem dL_areAlike_69 : decode cL_areAlike 69 = .ok (.bipush 6, 2) := by decide +kernel
theorem dL_areAlike_71 : decode cL_areAlike 71 = .ok (.if_icmp .ge 45, 3) := by decide +kernel
theorem dL_areAlike_74 : decode cL_areAlike 74 = .ok (.iload_n 2, 1) := by decide +kernel
theorem dL_areAlike_75 : decode cL_areAlike 75 = .ok (.ifCond .eq 33, 3) := by decide +kernel
theorem dL_areAlike_78 : decode cL_areAlike 78 = .ok (.aload_n 0, 1) := by decide +kernel
theorem dL_areAlike_79 : decode cL_areAlike 79 = .ok (.iload_n 3, 1) := by decide +kernel
theorem dL_areAlike_80 : decode cL_areAlike 80 = .ok (.invokevirtual 108, 3) := by decide +kernel
theorem dL_areAlike_83 : decode cL_areAlike 83 = .ok (.aload_n 1, 1) := by decide +kernel
theorem dL_areAlike_84 : decode cL_areAlike 84 = .ok (.iload_n 3, 1) := by decide +kernel
theorem dL_areAlike_85 : decode cL_areAlike 85 = .ok (.invokevirtual 108, 3) := by decide +kernel
theorem dL_areAlike_88 : decode cL_areAlike 88 = .ok (.if_icmp .ne 20, 3) := by decide +kernel
theorem dL_areAlike_91 : decode cL_areAlike 91 = .ok (.aload_n 0, 1) := by decide +kernel
theorem dL_areAlike_92 : decode cL_areAlike 92 = .ok (.iload_n 3, 1) := by decide +kernel
theorem dL_areAlike_93 : decode cL_areAlike 93 = .ok (.invokevirtual 111, 3) := by decide +kernel
theorem dL_areAlike_96 : decode cL_areAlike 96 = .ok (.aload_n 1, 1) := by decide +kernel
theorem dL_areAlike_97 : decode cL_areAlike 97 = .ok (.iload_n 3, 1) := by decide +kernel
theorem dL_areAlike_98 : decode cL_areAlike 98 = .ok (.invokevirtual 111, 3) := by decide +kernel
theorem dL_areAlike_101 : decode cL_areAlike 101 = .ok (.if_icmp .ne 7, 3) := by decide +kernel
theorem dL_areAlike_104 : decode cL_areAlike 104 = .ok (.iconst 1, 1) := by decide +kernel
theorem dL_areAlike_105 : decode cL_areAlike 105 = .ok (.goto 4, 3) := by decide +kernel
theorem dL_areAlike_108 : decode cL_areAlike 108 = .ok (.iconst 0, 1) := by decide +kernel
theorem dL_areAlike_109 : decode cL_areAlike 109 = .ok (.istore_n 2, 1) := by decide +kernel
theorem dL_areAlike_110 : decode cL_areAlike 110 = .ok (.iinc 3 1, 3) := by decide +kernel
theorem dL_areAlike_113 : decode cL_areAlike 113 = .ok (.goto (-45), 3) := by decide +kernel
theorem dL_areAlike_116 : decode cL_areAlike 116 = .ok (.iconst 0, 1) := by decide +kernel
theorem dL_areAlike_117 : decode cL_areAlike 117 = .ok (.istore_n 3, 1) := by decide +kernel
theorem dL_areAlike_118 : decode cL_areAlike 118 = .ok (.iload_n 3, 1) := by decide +kernel
theorem dL_areAlike_119 : decode cL_areAlike 119 = .ok (.aload_n 0, 1) := by decide +kernel
theorem dL_areAlike_120 : decode cL_areAlike 120 = .ok (.invokevirtual 73, 3) := by decide +kernel
theorem dL_areAlike_123 : decode cL_areAlike 123 = .ok (.if_icmp .ge 58, 3) := by decide +kernel
theorem dL_areAlike_126 : decode cL_areAlike 126 = .ok (.iload_n 2, 1) := by decide +kernel
theorem dL_areAlike_127 : decode cL_areAlike 127 = .ok (.ifCond .eq 54, 3) := by decide +kernel
theorem dL_areAlike_130 : decode cL_areAlike 130 = .ok (.aload_n 0, 1) := by decide +kernel
theorem dL_areAlike_131 : decode cL_areAlike 131 = .ok (.iload_n 3, 1) := by decide +kernel
theorem dL_areAlike_132 : decode cL_areAlike 132 = .ok (.invokevirtual 114, 3) := by decide +kernel
theorem dL_areAlike_135 : decode cL_areAlike 135 = .ok (.aload_n 1, 1) := by decide +kernel
theorem dL_areAlike_136 : decode cL_areAlike 136 = .ok (.iload_n 3, 1) := by decide +kernel
theorem dL_areAlike_137 : decode cL_areAlike 137 = .ok (.invokevirtual 114, 3) := by decide +kernel
theorem dL_areAlike_140 : decode cL_areAlike 140 = .ok (.if_icmp .ne 33, 3) := by decide +kernel
theorem dL_areAlike_143 : decode cL_areAlike 143 = .ok (.aload_n 0, 1) := by decide +kernel
theorem dL_areAlike_144 : decode cL_areAlike 144 = .ok (.iload_n 3, 1) := by decide +kernel
theorem dL_areAlike_145 : decode cL_areAlike 145 = .ok (.invokevirtual 117, 3) := by decide +kernel
theorem dL_areAlike_148 : decode cL_areAlike 148 = .ok (.aload_n 1, 1) := by decide +kernel
theorem dL_areAlike_149 : decode cL_areAlike 149 = .ok (.iload_n 3, 1) := by decide +kernel
theorem dL_areAlike_150 : decode cL_areAlike 150 = .ok (.invokevirtual 117, 3) := by decide +kernel
theorem dL_areAlike_153 : decode cL_areAlike 153 = .ok (.if_icmp .ne 20, 3) := by decide +kernel
theorem dL_areAlike_156 : decode cL_areAlike 156 = .ok (.aload_n 0, 1) := by decide +kernel
theorem dL_areAlike_157 : decode cL_areAlike 157 = .ok (.iload_n 3, 1) := by decide +kernel
theorem dL_areAlike_158 : decode cL_areAlike 158 = .ok (.invokevirtual 70, 3) := by decide +kernel
theorem dL_areAlike_161 : decode cL_areAlike 161 = .ok (.aload_n 1, 1) := by decide +kernel
theorem dL_areAlike_162 : decode cL_areAlike 162 = .ok (.iload_n 3, 1) := by decide +kernel
theorem dL_areAlike_163 : decode cL_areAlike 163 = .ok (.invokevirtual 70, 3) := by decide +kernel
theorem dL_areAlike_166 : decode cL_areAlike 166 = .ok (.if_icmp .ne 7, 3) := by decide +kernel
theorem dL_areAlike_169 : decode cL_areAlike 169 = .ok (.iconst 1, 1) := by decide +kernel
theorem dL_areAlike_170 : decode cL_areAlike 170 = .ok (.goto 4, 3) := by decide +kernel
theorem dL_areAlike_173 : decode cL_areAlike 173 = .ok (.iconst 0, 1) := by decide +kernel
theorem dL_areAlike_174 : decode cL_areAlike 174 = .ok (.istore_n 2, 1) := by decide +kernel
theorem dL_areAlike_175 : decode cL_areAlike 175 = .ok (.iinc 3 1, 3) := by decide +kernel
theorem dL_areAlike_178 : decode cL_areAlike 178 = .ok (.goto (-60), 3) := by decide +kernel
theorem dL_areAlike_181 : decode cL_areAlike 181 = .ok (.iload_n 2, 1) := by decide +kernel
theorem dL_areAlike_182 : decode cL_areAlike 182 = .ok (.ireturn, 1) := by decide +kernel
