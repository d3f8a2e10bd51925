theorem d_Mo_put_0 : decode b_Mo_put 0 = .ok (.iload_n 1, 1) := by decide +kernel
theorem d_Mo_put_1 : decode b_Mo_put 1 = .ok (.iconst 0, 1) := by decide +kernel
theorem d_Mo_put_2 : decode b_Mo_put 2 = .ok (.bipush 99, 2) := by decide +kernel
theorem d_Mo_put_4 : decode b_Mo_put 4 = .ok (.invokestatic 136, 3) := by decide +kernel
theorem d_Mo_put_7 : decode b_Mo_put 7 = .ok (.ifCond .eq 45, 3) := by decide +kernel
theorem d_Mo_put_10 : decode b_Mo_put 10 = .ok (.iload_n 2, 1) := by decide +kernel
theorem d_Mo_put_11 : decode b_Mo_put 11 = .ok (.iconst 0, 1) := by decide +kernel
theorem d_Mo_put_12 : decode b_Mo_put 12 = .ok (.bipush 99, 2) := by decide +kernel
theorem d_Mo_put_14 : decode b_Mo_put 14 = .ok (.invokestatic 136, 3) := by decide +kernel
theorem d_Mo_put_17 : decode b_Mo_put 17 = .ok (.ifCond .eq 35, 3) := by decide +kernel
theorem d_Mo_put_20 : decode b_Mo_put 20 = .ok (.iload_n 3, 1) := by decide +kernel
theorem d_Mo_put_21 : decode b_Mo_put 21 = .ok (.iconst 0, 1) := by decide +kernel
theorem d_Mo_put_22 : decode b_Mo_put 22 = .ok (.bipush 99, 2) := by decide +kernel
theorem d_Mo_put_24 : decode b_Mo_put 24 = .ok (.invokestatic 136, 3) := by decide +kernel
theorem d_Mo_put_27 : decode b_Mo_put 27 = .ok (.ifCond .eq 25, 3) := by decide +kernel
theorem d_Mo_put_30 : decode b_Mo_put 30 = .ok (.iload 4, 2) := by decide +kernel
theorem d_Mo_put_32 : decode b_Mo_put 32 = .ok (.iconst 0, 1) := by decide +kernel
theorem d_Mo_put_33 : decode b_Mo_put 33 = .ok (.bipush 99, 2) := by decide +kernel
theorem d_Mo_put_35 : decode b_Mo_put 35 = .ok (.invokestatic 136, 3) := by decide +kernel
theorem d_Mo_put_38 : decode b_Mo_put 38 = .ok (.ifCond .eq 14, 3) := by decide +kernel
theorem d_Mo_put_41 : decode b_Mo_put 41 = .ok (.iload 5, 2) := by decide +kernel
theorem d_Mo_put_43 : decode b_Mo_put 43 = .ok (.iconst 0, 1) := by decide +kernel
theorem d_Mo_put_44 : decode b_Mo_put 44 = .ok (.ldc 140, 2) := by decide +kernel
theorem d_Mo_put_46 : decode b_Mo_put 46 = .ok (.invokestatic 136, 3) := by decide +kernel
theorem d_Mo_put_49 : decode b_Mo_put 49 = .ok (.ifCond .ne 5, 3) := by decide +kernel
theorem d_Mo_put_52 : decode b_Mo_put 52 = .ok (.iconst (-1), 1) := by decide +kernel
theorem d_Mo_put_53 : decode b_Mo_put 53 = .ok (.ireturn, 1) := by decide +kernel
theorem d_Mo_put_54 : decode b_Mo_put 54 = .ok (.iconst 0, 1) := by decide +kernel
theorem d_Mo_put_55 : decode b_Mo_put 55 = .ok (.istore 6, 2) := by decide +kernel
theorem d_Mo_put_57 : decode b_Mo_put 57 = .ok (.iload 6, 2) := by decide +kernel
theorem d_Mo_put_59 : decode b_Mo_put 59 = .ok (.bipush 30, 2) := by decide +kernel
theorem d_Mo_put_61 : decode b_Mo_put 61 = .ok (.if_icmp .ge 19, 3) := by decide +kernel
theorem d_Mo_put_64 : decode b_Mo_put 64 = .ok (.aload_n 0, 1) := by decide +kernel
theorem d_Mo_put_65 : decode b_Mo_put 65 = .ok (.getfield 7, 3) := by decide +kernel
theorem d_Mo_put_68 : decode b_Mo_put 68 = .ok (.iload 6, 2) := by decide +kernel
theorem d_Mo_put_70 : decode b_Mo_put 70 = .ok (.baload, 1) := by decide +kernel
theorem d_Mo_put_71 : decode b_Mo_put 71 = .ok (.ifCond .eq 9, 3) := by decide +kernel
theorem d_Mo_put_74 : decode b_Mo_put 74 = .ok (.iinc 6 1, 3) := by decide +kernel
theorem d_Mo_put_77 : decode b_Mo_put 77 = .ok (.goto (-20), 3) := by decide +kernel
theorem d_Mo_put_80 : decode b_Mo_put 80 = .ok (.iload 6, 2) := by decide +kernel
theorem d_Mo_put_82 : decode b_Mo_put 82 = .ok (.bipush 30, 2) := by decide +kernel
theorem d_Mo_put_84 : decode b_Mo_put 84 = .ok (.if_icmp .ne 6, 3) := by decide +kernel
theorem d_Mo_put_87 : decode b_Mo_put 87 = .ok (.bipush (-3), 2) := by decide +kernel
theorem d_Mo_put_89 : decode b_Mo_put 89 = .ok (.ireturn, 1) := by decide +kernel
theorem d_Mo_put_90 : decode b_Mo_put 90 = .ok (.aload_n 0, 1) := by decide +kernel
theorem d_Mo_put_91 : decode b_Mo_put 91 = .ok (.getfield 16, 3) := by decide +kernel
theorem d_Mo_put_94 : decode b_Mo_put 94 = .ok (.iconst 4, 1) := by decide +kernel
theorem d_Mo_put_95 : decode b_Mo_put 95 = .ok (.iload 6, 2) := by decide +kernel
theorem d_Mo_put_97 : decode b_Mo_put 97 = .ok (.imul, 1) := by decide +kernel
theorem d_Mo_put_98 : decode b_Mo_put 98 = .ok (.iload_n 1, 1) := by decide +kernel
theorem d_Mo_put_99 : decode b_Mo_put 99 = .ok (.iastore, 1) := by decide +kernel
theorem d_Mo_put_100 : decode b_Mo_put 100 = .ok (.aload_n 0, 1) := by decide +kernel
theorem d_Mo_put_101 : decode b_Mo_put 101 = .ok (.getfield 16, 3) := by decide +kernel
theorem d_Mo_put_104 : decode b_Mo_put 104 = .ok (.iconst 4, 1) := by decide +kernel
theorem d_Mo_put_105 : decode b_Mo_put 105 = .ok (.iload 6, 2) := by decide +kernel
theorem d_Mo_put_107 : decode b_Mo_put 107 = .ok (.imul, 1) := by decide +kernel
theorem d_Mo_put_108 : decode b_Mo_put 108 = .ok (.iconst 1, 1) := by decide +kernel
theorem d_Mo_put_109 : decode b_Mo_put 109 = .ok (.iadd, 1) := by decide +kernel
theorem d_Mo_put_110 : decode b_Mo_put 110 = .ok (.iload_n 2, 1) := by decide +kernel
theorem d_Mo_put_111 : decode b_Mo_put 111 = .ok (.iastore, 1) := by decide +kernel
theorem d_Mo_put_112 : decode b_Mo_put 112 = .ok (.aload_n 0, 1) := by decide +kernel
theorem d_Mo_put_113 : decode b_Mo_put 113 = .ok (.getfield 16, 3) := by decide +kernel
theorem d_Mo_put_116 : decode b_Mo_put 116 = .ok (.iconst 4, 1) := by decide +kernel
theorem d_Mo_put_117 : decode b_Mo_put 117 = .ok (.iload 6, 2) := by decide +kernel
theorem d_Mo_put_119 : decode b_Mo_put 119 = .ok (.imul, 1) := by decide +kernel
theorem d_Mo_put_120 : decode b_Mo_put 120 = .ok (.iconst 2, 1) := by decide +kernel
theorem d_Mo_put_121 : decode b_Mo_put 121 = .ok (.iadd, 1) := by decide +kernel
theorem d_Mo_put_122 : decode b_Mo_put 122 = .ok (.iload_n 3, 1) := by decide +kernel
theorem d_Mo_put_123 : decode b_Mo_put 123 = .ok (.iastore, 1) := by decide +kernel
theorem d_Mo_put_124 : decode b_Mo_put 124 = .ok (.aload_n 0, 1) := by decide +kernel
theorem d_Mo_put_125 : decode b_Mo_put 125 = .ok (.getfield 16, 3) := by decide +kernel
theorem d_Mo_put_128 : decode b_Mo_put 128 = .ok (.iconst 4, 1) := by decide +kernel
theorem d_Mo_put_129 : decode b_Mo_put 129 = .ok (.iload 6, 2) := by decide +kernel
theorem d_Mo_put_131 : decode b_Mo_put 131 = .ok (.imul, 1) := by decide +kernel
theorem d_Mo_put_132 : decode b_Mo_put 132 = .ok (.iconst 3, 1) := by decide +kernel
theorem d_Mo_put_133 : decode b_Mo_put 133 = .ok (.iadd, 1) := by decide +kernel
theorem d_Mo_put_134 : decode b_Mo_put 134 = .ok (.iload 4, 2) := by decide +kernel
theorem d_Mo_put_136 : decode b_Mo_put 136 = .ok (.iastore, 1) := by decide +kernel
theorem d_Mo_put_137 : decode b_Mo_put 137 = .ok (.aload_n 0, 1) := by decide +kernel
theorem d_Mo_put_138 : decode b_Mo_put 138 = .ok (.getfield 20, 3) := by decide +kernel
theorem d_Mo_put_141 : decode b_Mo_put 141 = .ok (.iload 6, 2) := by decide +kernel
theorem d_Mo_put_143 : decode b_Mo_put 143 = .ok (.iload 5, 2) := by decide +kernel
theorem d_Mo_put_145 : decode b_Mo_put 145 = .ok (.iastore, 1) := by decide +kernel
theorem d_Mo_put_146 : decode b_Mo_put 146 = .ok (.aload_n 0, 1) := by decide +kernel
theorem d_Mo_put_147 : decode b_Mo_put 147 = .ok (.iload 6, 2) := by decide +kernel
theorem d_Mo_put_149 : decode b_Mo_put 149 = .ok (.invokevirtual 141, 3) := by decide +kernel
theorem d_Mo_put_152 : decode b_Mo_put 152 = .ok (.iload 6, 2) := by decide +kernel
theorem d_Mo_put_154 : decode b_Mo_put 154 = .ok (.ireturn, 1) := by decide +kernel
theorem d_Mo_in_0 : decode b_Mo_in 0 = .ok (.iload_n 0, 1) := by decide +kernel
theorem d_Mo_in_1 : decode b_Mo_in 1 = .ok (.iload_n 1, 1) := by decide +kernel
theorem d_Mo_in_2 : decode b_Mo_in 2 = .ok (.if_icmp .lt 12, 3) := by decide +kernel
theorem d_Mo_in_5 : decode b_Mo_in 5 = .ok (.iload_n 0, 1) := by decide +kernel
theorem d_Mo_in_6 : decode b_Mo_in 6 = .ok (.iload_n 2, 1) := by decide +kernel
theorem d_Mo_in_7 : decode b_Mo_in 7 = .ok (.if_icmp .gt 7, 3) := by decide +kernel
theorem d_Mo_in_10 : decode b_Mo_in 10 = .ok (.iconst 1, 1) := by decide +kernel
theorem d_Mo_in_11 : decode b_Mo_in 11 = .ok (.goto 4, 3) := by decide +kernel
theorem d_Mo_in_14 : decode b_Mo_in 14 = .ok (.iconst 0, 1) := by decide +kernel
theorem d_Mo_in_15 : decode b_Mo_in 15 = .ok (.ireturn, 1) := by decide +kernel
theorem d_Mo_enter_0 : decode b_Mo_enter 0 = .ok (.aload_n 0, 1) := by decide +kernel
theorem d_Mo_enter_1 : decode b_Mo_enter 1 = .ok (.dup, 1) := by decide +kernel
theorem d_Mo_enter_2 : decode b_Mo_enter 2 = .ok (.getfield 114, 3) := by decide +kernel
theorem d_Mo_enter_5 : decode b_Mo_enter 5 = .ok (.iconst 1, 1) := by decide +kernel
theorem d_Mo_enter_6 : decode b_Mo_enter 6 = .ok (.iadd, 1) := by decide +kernel
theorem d_Mo_enter_7 : decode b_Mo_enter 7 = .ok (.putfield 114, 3) := by decide +kernel
theorem d_Mo_enter_10 : decode b_Mo_enter 10 = .ok (.aload_n 0, 1) := by decide +kernel
theorem d_Mo_enter_11 : decode b_Mo_enter 11 = .ok (.getfield 26, 3) := by decide +kernel
theorem d_Mo_enter_14 : decode b_Mo_enter 14 = .ok (.iload_n 1, 1) := by decide +kernel
theorem d_Mo_enter_15 : decode b_Mo_enter 15 = .ok (.aload_n 0, 1) := by decide +kernel
theorem d_Mo_enter_16 : decode b_Mo_enter 16 = .ok (.getfield 114, 3) := by decide +kernel
theorem d_Mo_enter_19 : decode b_Mo_enter 19 = .ok (.iastore, 1) := by decide +kernel
theorem d_Mo_enter_20 : decode b_Mo_enter 20 = .ok (.iconst 0, 1) := by decide +kernel
theorem d_Mo_enter_21 : decode b_Mo_enter 21 = .ok (.istore_n 2, 1) := by decide +kernel
theorem d_Mo_enter_22 : decode b_Mo_enter 22 = .ok (.aload_n 0, 1) := by decide +kernel
theorem d_Mo_enter_23 : decode b_Mo_enter 23 = .ok (.getfield 114, 3) := by decide +kernel
theorem d_Mo_enter_26 : decode b_Mo_enter 26 = .ok (.istore_n 3, 1) := by decide +kernel
theorem d_Mo_enter_27 : decode b_Mo_enter 27 = .ok (.iload_n 3, 1) := by decide +kernel
theorem d_Mo_enter_28 : decode b_Mo_enter 28 = .ok (.iconst 3, 1) := by decide +kernel
theorem d_Mo_enter_29 : decode b_Mo_enter 29 = .ok (.irem, 1) := by decide +kernel
theorem d_Mo_enter_30 : decode b_Mo_enter 30 = .ok (.ifCond .ne 18, 3) := by decide +kernel
theorem d_Mo_enter_33 : decode b_Mo_enter 33 = .ok (.iload_n 2, 1) := by decide +kernel
theorem d_Mo_enter_34 : decode b_Mo_enter 34 = .ok (.iconst 3, 1) := by decide +kernel
theorem d_Mo_enter_35 : decode b_Mo_enter 35 = .ok (.if_icmp .ge 13, 3) := by decide +kernel
theorem d_Mo_enter_38 : decode b_Mo_enter 38 = .ok (.iinc 2 1, 3) := by decide +kernel
theorem d_Mo_enter_41 : decode b_Mo_enter 41 = .ok (.iload_n 3, 1) := by decide +kernel
theorem d_Mo_enter_42 : decode b_Mo_enter 42 = .ok (.iconst 3, 1) := by decide +kernel
theorem d_Mo_enter_43 : decode b_Mo_enter 43 = .ok (.idiv, 1) := by decide +kernel
theorem d_Mo_enter_44 : decode b_Mo_enter 44 = .ok (.istore_n 3, 1) := by decide +kernel
theorem d_Mo_enter_45 : decode b_Mo_enter 45 = .ok (.goto (-18), 3) := by decide +kernel
theorem d_Mo_enter_48 : decode b_Mo_enter 48 = .ok (.aload_n 0, 1) := by decide +kernel
theorem d_Mo_enter_49 : decode b_Mo_enter 49 = .ok (.getfield 23, 3) := by decide +kernel
theorem d_Mo_enter_52 : decode b_Mo_enter 52 = .ok (.iload_n 1, 1) := by decide +kernel
theorem d_Mo_enter_53 : decode b_Mo_enter 53 = .ok (.iload_n 2, 1) := by decide +kernel
theorem d_Mo_enter_54 : decode b_Mo_enter 54 = .ok (.iastore, 1) := by decide +kernel
theorem d_Mo_enter_55 : decode b_Mo_enter 55 = .ok (.iconst 0, 1) := by decide +kernel
theorem d_Mo_enter_56 : decode b_Mo_enter 56 = .ok (.istore_n 3, 1) := by decide +kernel
theorem d_Mo_enter_57 : decode b_Mo_enter 57 = .ok (.iload_n 3, 1) := by decide +kernel
theorem d_Mo_enter_58 : decode b_Mo_enter 58 = .ok (.iconst 4, 1) := by decide +kernel
theorem d_Mo_enter_59 : decode b_Mo_enter 59 = .ok (.if_icmp .ge 20, 3) := by decide +kernel
theorem d_Mo_enter_62 : decode b_Mo_enter 62 = .ok (.aload_n 0, 1) := by decide +kernel
theorem d_Mo_enter_63 : decode b_Mo_enter 63 = .ok (.getfield 32, 3) := by decide +kernel
theorem d_Mo_enter_66 : decode b_Mo_enter 66 = .ok (.iconst 4, 1) := by decide +kernel
theorem d_Mo_enter_67 : decode b_Mo_enter 67 = .ok (.iload_n 1, 1) := by decide +kernel
theorem d_Mo_enter_68 : decode b_Mo_enter 68 = .ok (.imul, 1) := by decide +kernel
theorem d_Mo_enter_69 : decode b_Mo_enter 69 = .ok (.iload_n 3, 1) := by decide +kernel
theorem d_Mo_enter_70 : decode b_Mo_enter 70 = .ok (.iadd, 1) := by decide +kernel
theorem d_Mo_enter_71 : decode b_Mo_enter 71 = .ok (.iconst 0, 1) := by decide +kernel
theorem d_Mo_enter_72 : decode b_Mo_enter 72 = .ok (.iastore, 1) := by decide +kernel
theorem d_Mo_enter_73 : decode b_Mo_enter 73 = .ok (.iinc 3 1, 3) := by decide +kernel
theorem d_Mo_enter_76 : decode b_Mo_enter 76 = .ok (.goto (-19), 3) := by decide +kernel
theorem d_Mo_enter_79 : decode b_Mo_enter 79 = .ok (.aload_n 0, 1) := by decide +kernel
theorem d_Mo_enter_80 : decode b_Mo_enter 80 = .ok (.getfield 35, 3) := by decide +kernel
theorem d_Mo_enter_83 : decode b_Mo_enter 83 = .ok (.ifCond .lt 117, 3) := by decide +kernel
theorem d_Mo_enter_86 : decode b_Mo_enter 86 = .ok (.aload_n 0, 1) := by decide +kernel
theorem d_Mo_enter_87 : decode b_Mo_enter 87 = .ok (.iload_n 1, 1) := by decide +kernel
theorem d_Mo_enter_88 : decode b_Mo_enter 88 = .ok (.invokevirtual 117, 3) := by decide +kernel
theorem d_Mo_enter_91 : decode b_Mo_enter 91 = .ok (.aload_n 0, 1) := by decide +kernel
theorem d_Mo_enter_92 : decode b_Mo_enter 92 = .ok (.getfield 57, 3) := by decide +kernel
theorem d_Mo_enter_95 : decode b_Mo_enter 95 = .ok (.iconst 0, 1) := by decide +kernel
theorem d_Mo_enter_96 : decode b_Mo_enter 96 = .ok (.aload_n 0, 1) := by decide +kernel
theorem d_Mo_enter_97 : decode b_Mo_enter 97 = .ok (.getfield 35, 3) := by decide +kernel
theorem d_Mo_enter_100 : decode b_Mo_enter 100 = .ok (.iastore, 1) := by decide +kernel
theorem d_Mo_enter_101 : decode b_Mo_enter 101 = .ok (.aload_n 0, 1) := by decide +kernel
theorem d_Mo_enter_102 : decode b_Mo_enter 102 = .ok (.iconst 1, 1) := by decide +kernel
theorem d_Mo_enter_103 : decode b_Mo_enter 103 = .ok (.putfield 83, 3) := by decide +kernel
theorem d_Mo_enter_106 : decode b_Mo_enter 106 = .ok (.aload_n 0, 1) := by decide +kernel
theorem d_Mo_enter_107 : decode b_Mo_enter 107 = .ok (.getfield 23, 3) := by decide +kernel
theorem d_Mo_enter_110 : decode b_Mo_enter 110 = .ok (.aload_n 0, 1) := by decide +kernel
theorem d_Mo_enter_111 : decode b_Mo_enter 111 = .ok (.getfield 35, 3) := by decide +kernel
theorem d_Mo_enter_114 : decode b_Mo_enter 114 = .ok (.iaload, 1) := by decide +kernel
theorem d_Mo_enter_115 : decode b_Mo_enter 115 = .ok (.istore_n 3, 1) := by decide +kernel
theorem d_Mo_enter_116 : decode b_Mo_enter 116 = .ok (.iload_n 3, 1) := by decide +kernel
theorem d_Mo_enter_117 : decode b_Mo_enter 117 = .ok (.istore 4, 2) := by decide +kernel
theorem d_Mo_enter_119 : decode b_Mo_enter 119 = .ok (.iload 4, 2) := by decide +kernel
theorem d_Mo_enter_121 : decode b_Mo_enter 121 = .ok (.iload_n 2, 1) := by decide +kernel
theorem d_Mo_enter_122 : decode b_Mo_enter 122 = .ok (.if_icmp .le 26, 3) := by decide +kernel
theorem d_Mo_enter_125 : decode b_Mo_enter 125 = .ok (.aload_n 0, 1) := by decide +kernel
theorem d_Mo_enter_126 : decode b_Mo_enter 126 = .ok (.dup, 1) := by decide +kernel
theorem d_Mo_enter_127 : decode b_Mo_enter 127 = .ok (.getfield 120, 3) := by decide +kernel
theorem d_Mo_enter_130 : decode b_Mo_enter 130 = .ok (.aload_n 0, 1) := by decide +kernel
theorem d_Mo_enter_131 : decode b_Mo_enter 131 = .ok (.iload 4, 2) := by decide +kernel
theorem d_Mo_enter_133 : decode b_Mo_enter 133 = .ok (.iconst 1, 1) := by decide +kernel
theorem d_Mo_enter_134 : decode b_Mo_enter 134 = .ok (.invokevirtual 124, 3) := by decide +kernel
theorem d_Mo_enter_137 : decode b_Mo_enter 137 = .ok (.i2l, 1) := by decide +kernel
theorem d_Mo_enter_138 : decode b_Mo_enter 138 = .ok (.ladd, 1) := by decide +kernel
theorem d_Mo_enter_139 : decode b_Mo_enter 139 = .ok (.putfield 120, 3) := by decide +kernel
theorem d_Mo_enter_142 : decode b_Mo_enter 142 = .ok (.iinc 4 (-1), 3) := by decide +kernel
theorem d_Mo_enter_145 : decode b_Mo_enter 145 = .ok (.goto (-26), 3) := by decide +kernel
theorem d_Mo_enter_148 : decode b_Mo_enter 148 = .ok (.iload_n 2, 1) := by decide +kernel
theorem d_Mo_enter_149 : decode b_Mo_enter 149 = .ok (.iload_n 3, 1) := by decide +kernel
theorem d_Mo_enter_150 : decode b_Mo_enter 150 = .ok (.if_icmp .ge 7, 3) := by decide +kernel
theorem d_Mo_enter_153 : decode b_Mo_enter 153 = .ok (.iload_n 2, 1) := by decide +kernel
theorem d_Mo_enter_154 : decode b_Mo_enter 154 = .ok (.goto 4, 3) := by decide +kernel
theorem d_Mo_enter_157 : decode b_Mo_enter 157 = .ok (.iload_n 3, 1) := by decide +kernel
theorem d_Mo_enter_158 : decode b_Mo_enter 158 = .ok (.istore 4, 2) := by decide +kernel
theorem d_Mo_enter_160 : decode b_Mo_enter 160 = .ok (.iload 4, 2) := by decide +kernel
theorem d_Mo_enter_162 : decode b_Mo_enter 162 = .ok (.ifCond .lt 38, 3) := by decide +kernel
theorem d_Mo_enter_165 : decode b_Mo_enter 165 = .ok (.aload_n 0, 1) := by decide +kernel
theorem d_Mo_enter_166 : decode b_Mo_enter 166 = .ok (.dup, 1) := by decide +kernel
theorem d_Mo_enter_167 : decode b_Mo_enter 167 = .ok (.getfield 120, 3) := by decide +kernel
theorem d_Mo_enter_170 : decode b_Mo_enter 170 = .ok (.aload_n 0, 1) := by decide +kernel
theorem d_Mo_enter_171 : decode b_Mo_enter 171 = .ok (.iload 4, 2) := by decide +kernel
theorem d_Mo_enter_173 : decode b_Mo_enter 173 = .ok (.iconst 5, 1) := by decide +kernel
theorem d_Mo_enter_174 : decode b_Mo_enter 174 = .ok (.invokevirtual 124, 3) := by decide +kernel
theorem d_Mo_enter_177 : decode b_Mo_enter 177 = .ok (.i2l, 1) := by decide +kernel
theorem d_Mo_enter_178 : decode b_Mo_enter 178 = .ok (.ladd, 1) := by decide +kernel
theorem d_Mo_enter_179 : decode b_Mo_enter 179 = .ok (.putfield 120, 3) := by decide +kernel
theorem d_Mo_enter_182 : decode b_Mo_enter 182 = .ok (.aload_n 0, 1) := by decide +kernel
theorem d_Mo_enter_183 : decode b_Mo_enter 183 = .ok (.iload_n 1, 1) := by decide +kernel
theorem d_Mo_enter_184 : decode b_Mo_enter 184 = .ok (.iload 4, 2) := by decide +kernel
theorem d_Mo_enter_186 : decode b_Mo_enter 186 = .ok (.invokevirtual 127, 3) := by decide +kernel
theorem d_Mo_enter_189 : decode b_Mo_enter 189 = .ok (.aload_n 0, 1) := by decide +kernel
theorem d_Mo_enter_190 : decode b_Mo_enter 190 = .ok (.iload_n 1, 1) := by decide +kernel
theorem d_Mo_enter_191 : decode b_Mo_enter 191 = .ok (.invokevirtual 117, 3) := by decide +kernel
theorem d_Mo_enter_194 : decode b_Mo_enter 194 = .ok (.iinc 4 (-1), 3) := by decide +kernel
theorem d_Mo_enter_197 : decode b_Mo_enter 197 = .ok (.goto (-37), 3) := by decide +kernel
theorem d_Mo_enter_200 : decode b_Mo_enter 200 = .ok (.aload_n 0, 1) := by decide +kernel
theorem d_Mo_enter_201 : decode b_Mo_enter 201 = .ok (.getfield 7, 3) := by decide +kernel
theorem d_Mo_enter_204 : decode b_Mo_enter 204 = .ok (.iload_n 1, 1) := by decide +kernel
theorem d_Mo_enter_205 : decode b_Mo_enter 205 = .ok (.iconst 1, 1) := by decide +kernel
theorem d_Mo_enter_206 : decode b_Mo_enter 206 = .ok (.bastore, 1) := by decide +kernel
theorem d_Mo_enter_207 : decode b_Mo_enter 207 = .ok (.aload_n 0, 1) := by decide +kernel
theorem d_Mo_enter_208 : decode b_Mo_enter 208 = .ok (.getfield 13, 3) := by decide +kernel
theorem d_Mo_enter_211 : decode b_Mo_enter 211 = .ok (.iload_n 1, 1) := by decide +kernel
theorem d_Mo_enter_212 : decode b_Mo_enter 212 = .ok (.iconst 1, 1) := by decide +kernel
theorem d_Mo_enter_213 : decode b_Mo_enter 213 = .ok (.bastore, 1) := by decide +kernel
theorem d_Mo_enter_214 : decode b_Mo_enter 214 = .ok (.aload_n 0, 1) := by decide +kernel
theorem d_Mo_enter_215 : decode b_Mo_enter 215 = .ok (.getfield 35, 3) := by decide +kernel
theorem d_Mo_enter_218 : decode b_Mo_enter 218 = .ok (.ifCond .lt 16, 3) := by decide +kernel
theorem d_Mo_enter_221 : decode b_Mo_enter 221 = .ok (.iload_n 2, 1) := by decide +kernel
theorem d_Mo_enter_222 : decode b_Mo_enter 222 = .ok (.aload_n 0, 1) := by decide +kernel
theorem d_Mo_enter_223 : decode b_Mo_enter 223 = .ok (.getfield 23, 3) := by decide +kernel
theorem d_Mo_enter_226 : decode b_Mo_enter 226 = .ok (.aload_n 0, 1) := by decide +kernel
theorem d_Mo_enter_227 : decode b_Mo_enter 227 = .ok (.getfield 35, 3) := by decide +kernel
theorem d_Mo_enter_230 : decode b_Mo_enter 230 = .ok (.iaload, 1) := by decide +kernel
theorem d_Mo_enter_231 : decode b_Mo_enter 231 = .ok (.if_icmp .le 8, 3) := by decide +kernel
theorem d_Mo_enter_234 : decode b_Mo_enter 234 = .ok (.aload_n 0, 1) := by decide +kernel
theorem d_Mo_enter_235 : decode b_Mo_enter 235 = .ok (.iload_n 1, 1) := by decide +kernel
theorem d_Mo_enter_236 : decode b_Mo_enter 236 = .ok (.putfield 35, 3) := by decide +kernel
theorem d_Mo_enter_239 : decode b_Mo_enter 239 = .ok (.return_, 1) := by decide +kernel
theorem d_Mo_aimAt_0 : decode b_Mo_aimAt 0 = .ok (.iconst 0, 1) := by decide +kernel
theorem d_Mo_aimAt_1 : decode b_Mo_aimAt 1 = .ok (.istore_n 2, 1) := by decide +kernel
theorem d_Mo_aimAt_2 : decode b_Mo_aimAt 2 = .ok (.iload_n 2, 1) := by decide +kernel
theorem d_Mo_aimAt_3 : decode b_Mo_aimAt 3 = .ok (.iconst 4, 1) := by decide +kernel
theorem d_Mo_aimAt_4 : decode b_Mo_aimAt 4 = .ok (.if_icmp .ge 25, 3) := by decide +kernel
theorem d_Mo_aimAt_7 : decode b_Mo_aimAt 7 = .ok (.aload_n 0, 1) := by decide +kernel
theorem d_Mo_aimAt_8 : decode b_Mo_aimAt 8 = .ok (.getfield 39, 3) := by decide +kernel
theorem d_Mo_aimAt_11 : decode b_Mo_aimAt 11 = .ok (.iload_n 2, 1) := by decide +kernel
theorem d_Mo_aimAt_12 : decode b_Mo_aimAt 12 = .ok (.aload_n 0, 1) := by decide +kernel
theorem d_Mo_aimAt_13 : decode b_Mo_aimAt 13 = .ok (.getfield 16, 3) := by decide +kernel
theorem d_Mo_aimAt_16 : decode b_Mo_aimAt 16 = .ok (.iconst 4, 1) := by decide +kernel
theorem d_Mo_aimAt_17 : decode b_Mo_aimAt 17 = .ok (.iload_n 1, 1) := by decide +kernel
theorem d_Mo_aimAt_18 : decode b_Mo_aimAt 18 = .ok (.imul, 1) := by decide +kernel
theorem d_Mo_aimAt_19 : decode b_Mo_aimAt 19 = .ok (.iload_n 2, 1) := by decide +kernel
theorem d_Mo_aimAt_20 : decode b_Mo_aimAt 20 = .ok (.iadd, 1) := by decide +kernel
theorem d_Mo_aimAt_21 : decode b_Mo_aimAt 21 = .ok (.iaload, 1) := by decide +kernel
theorem d_Mo_aimAt_22 : decode b_Mo_aimAt 22 = .ok (.iastore, 1) := by decide +kernel
theorem d_Mo_aimAt_23 : decode b_Mo_aimAt 23 = .ok (.iinc 2 1, 3) := by decide +kernel
theorem d_Mo_aimAt_26 : decode b_Mo_aimAt 26 = .ok (.goto (-24), 3) := by decide +kernel
theorem d_Mo_aimAt_29 : decode b_Mo_aimAt 29 = .ok (.return_, 1) := by decide +kernel
theorem d_Mo_walk_0 : decode b_Mo_walk 0 = .ok (.iconst 0, 1) := by decide +kernel
theorem d_Mo_walk_1 : decode b_Mo_walk 1 = .ok (.istore_n 3, 1) := by decide +kernel
theorem d_Mo_walk_2 : decode b_Mo_walk 2 = .ok (.iload_n 3, 1) := by decide +kernel
theorem d_Mo_walk_3 : decode b_Mo_walk 3 = .ok (.bipush 30, 2) := by decide +kernel
theorem d_Mo_walk_5 : decode b_Mo_walk 5 = .ok (.if_icmp .ge 23, 3) := by decide +kernel
theorem d_Mo_walk_8 : decode b_Mo_walk 8 = .ok (.aload_n 0, 1) := by decide +kernel
theorem d_Mo_walk_9 : decode b_Mo_walk 9 = .ok (.getfield 45, 3) := by decide +kernel
theorem d_Mo_walk_12 : decode b_Mo_walk 12 = .ok (.iload_n 3, 1) := by decide +kernel
theorem d_Mo_walk_13 : decode b_Mo_walk 13 = .ok (.iconst 0, 1) := by decide +kernel
theorem d_Mo_walk_14 : decode b_Mo_walk 14 = .ok (.bastore, 1) := by decide +kernel
theorem d_Mo_walk_15 : decode b_Mo_walk 15 = .ok (.aload_n 0, 1) := by decide +kernel
theorem d_Mo_walk_16 : decode b_Mo_walk 16 = .ok (.getfield 48, 3) := by decide +kernel
theorem d_Mo_walk_19 : decode b_Mo_walk 19 = .ok (.iload_n 3, 1) := by decide +kernel
theorem d_Mo_walk_20 : decode b_Mo_walk 20 = .ok (.iconst 0, 1) := by decide +kernel
theorem d_Mo_walk_21 : decode b_Mo_walk 21 = .ok (.bastore, 1) := by decide +kernel
theorem d_Mo_walk_22 : decode b_Mo_walk 22 = .ok (.iinc 3 1, 3) := by decide +kernel
theorem d_Mo_walk_25 : decode b_Mo_walk 25 = .ok (.goto (-23), 3) := by decide +kernel
theorem d_Mo_walk_28 : decode b_Mo_walk 28 = .ok (.iconst 0, 1) := by decide +kernel
theorem d_Mo_walk_29 : decode b_Mo_walk 29 = .ok (.istore_n 3, 1) := by decide +kernel
theorem d_Mo_walk_30 : decode b_Mo_walk 30 = .ok (.iload_n 3, 1) := by decide +kernel
theorem d_Mo_walk_31 : decode b_Mo_walk 31 = .ok (.aload_n 0, 1) := by decide +kernel
theorem d_Mo_walk_32 : decode b_Mo_walk 32 = .ok (.getfield 83, 3) := by decide +kernel
theorem d_Mo_walk_35 : decode b_Mo_walk 35 = .ok (.if_icmp .ge 33, 3) := by decide +kernel
theorem d_Mo_walk_38 : decode b_Mo_walk 38 = .ok (.aload_n 0, 1) := by decide +kernel
theorem d_Mo_walk_39 : decode b_Mo_walk 39 = .ok (.getfield 45, 3) := by decide +kernel
theorem d_Mo_walk_42 : decode b_Mo_walk 42 = .ok (.aload_n 0, 1) := by decide +kernel
theorem d_Mo_walk_43 : decode b_Mo_walk 43 = .ok (.getfield 57, 3) := by decide +kernel
theorem d_Mo_walk_46 : decode b_Mo_walk 46 = .ok (.iload_n 3, 1) := by decide +kernel
theorem d_Mo_walk_47 : decode b_Mo_walk 47 = .ok (.iaload, 1) := by decide +kernel
theorem d_Mo_walk_48 : decode b_Mo_walk 48 = .ok (.iconst 1, 1) := by decide +kernel
theorem d_Mo_walk_49 : decode b_Mo_walk 49 = .ok (.bastore, 1) := by decide +kernel
theorem d_Mo_walk_50 : decode b_Mo_walk 50 = .ok (.aload_n 0, 1) := by decide +kernel
theorem d_Mo_walk_51 : decode b_Mo_walk 51 = .ok (.getfield 48, 3) := by decide +kernel
theorem d_Mo_walk_54 : decode b_Mo_walk 54 = .ok (.aload_n 0, 1) := by decide +kernel
theorem d_Mo_walk_55 : decode b_Mo_walk 55 = .ok (.getfield 57, 3) := by decide +kernel
theorem d_Mo_walk_58 : decode b_Mo_walk 58 = .ok (.iload_n 3, 1) := by decide +kernel
theorem d_Mo_walk_59 : decode b_Mo_walk 59 = .ok (.iaload, 1) := by decide +kernel
theorem d_Mo_walk_60 : decode b_Mo_walk 60 = .ok (.iconst 1, 1) := by decide +kernel
theorem d_Mo_walk_61 : decode b_Mo_walk 61 = .ok (.bastore, 1) := by decide +kernel
theorem d_Mo_walk_62 : decode b_Mo_walk 62 = .ok (.iinc 3 1, 3) := by decide +kernel
theorem d_Mo_walk_65 : decode b_Mo_walk 65 = .ok (.goto (-35), 3) := by decide +kernel
theorem d_Mo_walk_68 : decode b_Mo_walk 68 = .ok (.aload_n 0, 1) := by decide +kernel
theorem d_Mo_walk_69 : decode b_Mo_walk 69 = .ok (.getfield 48, 3) := by decide +kernel
theorem d_Mo_walk_72 : decode b_Mo_walk 72 = .ok (.invokestatic 86, 3) := by decide +kernel
theorem d_Mo_walk_75 : decode b_Mo_walk 75 = .ok (.iload_n 2, 1) := by decide +kernel
theorem d_Mo_walk_76 : decode b_Mo_walk 76 = .ok (.if_icmp .le 20, 3) := by decide +kernel
theorem d_Mo_walk_79 : decode b_Mo_walk 79 = .ok (.aload_n 0, 1) := by decide +kernel
theorem d_Mo_walk_80 : decode b_Mo_walk 80 = .ok (.getfield 48, 3) := by decide +kernel
theorem d_Mo_walk_83 : decode b_Mo_walk 83 = .ok (.aload_n 0, 1) := by decide +kernel
theorem d_Mo_walk_84 : decode b_Mo_walk 84 = .ok (.aload_n 0, 1) := by decide +kernel
theorem d_Mo_walk_85 : decode b_Mo_walk 85 = .ok (.getfield 48, 3) := by decide +kernel
theorem d_Mo_walk_88 : decode b_Mo_walk 88 = .ok (.invokevirtual 90, 3) := by decide +kernel
theorem d_Mo_walk_91 : decode b_Mo_walk 91 = .ok (.iconst 0, 1) := by decide +kernel
theorem d_Mo_walk_92 : decode b_Mo_walk 92 = .ok (.bastore, 1) := by decide +kernel
theorem d_Mo_walk_93 : decode b_Mo_walk 93 = .ok (.goto (-25), 3) := by decide +kernel
theorem d_Mo_walk_96 : decode b_Mo_walk 96 = .ok (.iconst 0, 1) := by decide +kernel
theorem d_Mo_walk_97 : decode b_Mo_walk 97 = .ok (.istore_n 3, 1) := by decide +kernel
theorem d_Mo_walk_98 : decode b_Mo_walk 98 = .ok (.iload_n 3, 1) := by decide +kernel
theorem d_Mo_walk_99 : decode b_Mo_walk 99 = .ok (.bipush 30, 2) := by decide +kernel
theorem d_Mo_walk_101 : decode b_Mo_walk 101 = .ok (.if_icmp .ge 21, 3) := by decide +kernel
theorem d_Mo_walk_104 : decode b_Mo_walk 104 = .ok (.aload_n 0, 1) := by decide +kernel
theorem d_Mo_walk_105 : decode b_Mo_walk 105 = .ok (.getfield 51, 3) := by decide +kernel
theorem d_Mo_walk_108 : decode b_Mo_walk 108 = .ok (.iload_n 3, 1) := by decide +kernel
theorem d_Mo_walk_109 : decode b_Mo_walk 109 = .ok (.aload_n 0, 1) := by decide +kernel
theorem d_Mo_walk_110 : decode b_Mo_walk 110 = .ok (.getfield 48, 3) := by decide +kernel
theorem d_Mo_walk_113 : decode b_Mo_walk 113 = .ok (.iload_n 3, 1) := by decide +kernel
theorem d_Mo_walk_114 : decode b_Mo_walk 114 = .ok (.baload, 1) := by decide +kernel
theorem d_Mo_walk_115 : decode b_Mo_walk 115 = .ok (.bastore, 1) := by decide +kernel
theorem d_Mo_walk_116 : decode b_Mo_walk 116 = .ok (.iinc 3 1, 3) := by decide +kernel
theorem d_Mo_walk_119 : decode b_Mo_walk 119 = .ok (.goto (-21), 3) := by decide +kernel
theorem d_Mo_walk_122 : decode b_Mo_walk 122 = .ok (.aload_n 0, 1) := by decide +kernel
theorem d_Mo_walk_123 : decode b_Mo_walk 123 = .ok (.aload_n 0, 1) := by decide +kernel
theorem d_Mo_walk_124 : decode b_Mo_walk 124 = .ok (.getfield 51, 3) := by decide +kernel
theorem d_Mo_walk_127 : decode b_Mo_walk 127 = .ok (.invokevirtual 93, 3) := by decide +kernel
theorem d_Mo_walk_130 : decode b_Mo_walk 130 = .ok (.istore_n 3, 1) := by decide +kernel
theorem d_Mo_walk_131 : decode b_Mo_walk 131 = .ok (.iload_n 3, 1) := by decide +kernel
theorem d_Mo_walk_132 : decode b_Mo_walk 132 = .ok (.ifCond .lt 102, 3) := by decide +kernel
theorem d_Mo_walk_135 : decode b_Mo_walk 135 = .ok (.aload_n 0, 1) := by decide +kernel
theorem d_Mo_walk_136 : decode b_Mo_walk 136 = .ok (.getfield 51, 3) := by decide +kernel
theorem d_Mo_walk_139 : decode b_Mo_walk 139 = .ok (.iload_n 3, 1) := by decide +kernel
theorem d_Mo_walk_140 : decode b_Mo_walk 140 = .ok (.iconst 0, 1) := by decide +kernel
theorem d_Mo_walk_141 : decode b_Mo_walk 141 = .ok (.bastore, 1) := by decide +kernel
theorem d_Mo_walk_142 : decode b_Mo_walk 142 = .ok (.aload_n 0, 1) := by decide +kernel
theorem d_Mo_walk_143 : decode b_Mo_walk 143 = .ok (.getfield 48, 3) := by decide +kernel
theorem d_Mo_walk_146 : decode b_Mo_walk 146 = .ok (.invokestatic 86, 3) := by decide +kernel
theorem d_Mo_walk_149 : decode b_Mo_walk 149 = .ok (.iload_n 2, 1) := by decide +kernel
theorem d_Mo_walk_150 : decode b_Mo_walk 150 = .ok (.if_icmp .ne 22, 3) := by decide +kernel
theorem d_Mo_walk_153 : decode b_Mo_walk 153 = .ok (.aload_n 0, 1) := by decide +kernel
theorem d_Mo_walk_154 : decode b_Mo_walk 154 = .ok (.aload_n 0, 1) := by decide +kernel
theorem d_Mo_walk_155 : decode b_Mo_walk 155 = .ok (.aload_n 0, 1) := by decide +kernel
theorem d_Mo_walk_156 : decode b_Mo_walk 156 = .ok (.getfield 48, 3) := by decide +kernel
theorem d_Mo_walk_159 : decode b_Mo_walk 159 = .ok (.invokevirtual 90, 3) := by decide +kernel
theorem d_Mo_walk_162 : decode b_Mo_walk 162 = .ok (.iload_n 3, 1) := by decide +kernel
theorem d_Mo_walk_163 : decode b_Mo_walk 163 = .ok (.invokevirtual 79, 3) := by decide +kernel
theorem d_Mo_walk_166 : decode b_Mo_walk 166 = .ok (.ifCond .eq 6, 3) := by decide +kernel
theorem d_Mo_walk_169 : decode b_Mo_walk 169 = .ok (.goto 65, 3) := by decide +kernel
theorem d_Mo_walk_172 : decode b_Mo_walk 172 = .ok (.iconst 4, 1) := by decide +kernel
theorem d_Mo_walk_173 : decode b_Mo_walk 173 = .ok (.iload_n 3, 1) := by decide +kernel
theorem d_Mo_walk_174 : decode b_Mo_walk 174 = .ok (.imul, 1) := by decide +kernel
theorem d_Mo_walk_175 : decode b_Mo_walk 175 = .ok (.iload_n 1, 1) := by decide +kernel
theorem d_Mo_walk_176 : decode b_Mo_walk 176 = .ok (.iadd, 1) := by decide +kernel
theorem d_Mo_walk_177 : decode b_Mo_walk 177 = .ok (.istore 4, 2) := by decide +kernel
theorem d_Mo_walk_179 : decode b_Mo_walk 179 = .ok (.bipush 7, 2) := by decide +kernel
theorem d_Mo_walk_181 : decode b_Mo_walk 181 = .ok (.iload 4, 2) := by decide +kernel
theorem d_Mo_walk_183 : decode b_Mo_walk 183 = .ok (.imul, 1) := by decide +kernel
theorem d_Mo_walk_184 : decode b_Mo_walk 184 = .ok (.istore 5, 2) := by decide +kernel
theorem d_Mo_walk_186 : decode b_Mo_walk 186 = .ok (.iload 5, 2) := by decide +kernel
theorem d_Mo_walk_188 : decode b_Mo_walk 188 = .ok (.bipush 7, 2) := by decide +kernel
theorem d_Mo_walk_190 : decode b_Mo_walk 190 = .ok (.iload 4, 2) := by decide +kernel
theorem d_Mo_walk_192 : decode b_Mo_walk 192 = .ok (.imul, 1) := by decide +kernel
theorem d_Mo_walk_193 : decode b_Mo_walk 193 = .ok (.aload_n 0, 1) := by decide +kernel
theorem d_Mo_walk_194 : decode b_Mo_walk 194 = .ok (.getfield 32, 3) := by decide +kernel
theorem d_Mo_walk_197 : decode b_Mo_walk 197 = .ok (.iload 4, 2) := by decide +kernel
theorem d_Mo_walk_199 : decode b_Mo_walk 199 = .ok (.iaload, 1) := by decide +kernel
theorem d_Mo_walk_200 : decode b_Mo_walk 200 = .ok (.iadd, 1) := by decide +kernel
theorem d_Mo_walk_201 : decode b_Mo_walk 201 = .ok (.if_icmp .ge 21, 3) := by decide +kernel
theorem d_Mo_walk_204 : decode b_Mo_walk 204 = .ok (.aload_n 0, 1) := by decide +kernel
theorem d_Mo_walk_205 : decode b_Mo_walk 205 = .ok (.aload_n 0, 1) := by decide +kernel
theorem d_Mo_walk_206 : decode b_Mo_walk 206 = .ok (.getfield 29, 3) := by decide +kernel
theorem d_Mo_walk_209 : decode b_Mo_walk 209 = .ok (.iload 5, 2) := by decide +kernel
theorem d_Mo_walk_211 : decode b_Mo_walk 211 = .ok (.iaload, 1) := by decide +kernel
theorem d_Mo_walk_212 : decode b_Mo_walk 212 = .ok (.iload_n 2, 1) := by decide +kernel
theorem d_Mo_walk_213 : decode b_Mo_walk 213 = .ok (.invokevirtual 96, 3) := by decide +kernel
theorem d_Mo_walk_216 : decode b_Mo_walk 216 = .ok (.iinc 5 1, 3) := by decide +kernel
theorem d_Mo_walk_219 : decode b_Mo_walk 219 = .ok (.goto (-33), 3) := by decide +kernel
theorem d_Mo_walk_222 : decode b_Mo_walk 222 = .ok (.aload_n 0, 1) := by decide +kernel
theorem d_Mo_walk_223 : decode b_Mo_walk 223 = .ok (.aload_n 0, 1) := by decide +kernel
theorem d_Mo_walk_224 : decode b_Mo_walk 224 = .ok (.getfield 51, 3) := by decide +kernel
theorem d_Mo_walk_227 : decode b_Mo_walk 227 = .ok (.invokevirtual 93, 3) := by decide +kernel
theorem d_Mo_walk_230 : decode b_Mo_walk 230 = .ok (.istore_n 3, 1) := by decide +kernel
theorem d_Mo_walk_231 : decode b_Mo_walk 231 = .ok (.goto (-100), 3) := by decide +kernel
theorem d_Mo_walk_234 : decode b_Mo_walk 234 = .ok (.aload_n 0, 1) := by decide +kernel
theorem d_Mo_walk_235 : decode b_Mo_walk 235 = .ok (.iconst 0, 1) := by decide +kernel
theorem d_Mo_walk_236 : decode b_Mo_walk 236 = .ok (.putfield 83, 3) := by decide +kernel
theorem d_Mo_walk_239 : decode b_Mo_walk 239 = .ok (.aload_n 0, 1) := by decide +kernel
theorem d_Mo_walk_240 : decode b_Mo_walk 240 = .ok (.getfield 48, 3) := by decide +kernel
theorem d_Mo_walk_243 : decode b_Mo_walk 243 = .ok (.invokestatic 86, 3) := by decide +kernel
theorem d_Mo_walk_246 : decode b_Mo_walk 246 = .ok (.istore 4, 2) := by decide +kernel
theorem d_Mo_walk_248 : decode b_Mo_walk 248 = .ok (.iconst 0, 1) := by decide +kernel
theorem d_Mo_walk_249 : decode b_Mo_walk 249 = .ok (.istore 5, 2) := by decide +kernel
theorem d_Mo_walk_251 : decode b_Mo_walk 251 = .ok (.iload 5, 2) := by decide +kernel
theorem d_Mo_walk_253 : decode b_Mo_walk 253 = .ok (.iload 4, 2) := by decide +kernel
theorem d_Mo_walk_255 : decode b_Mo_walk 255 = .ok (.if_icmp .ge 36, 3) := by decide +kernel
theorem d_Mo_walk_258 : decode b_Mo_walk 258 = .ok (.aload_n 0, 1) := by decide +kernel
theorem d_Mo_walk_259 : decode b_Mo_walk 259 = .ok (.aload_n 0, 1) := by decide +kernel
theorem d_Mo_walk_260 : decode b_Mo_walk 260 = .ok (.getfield 48, 3) := by decide +kernel
theorem d_Mo_walk_263 : decode b_Mo_walk 263 = .ok (.invokevirtual 93, 3) := by decide +kernel
theorem d_Mo_walk_266 : decode b_Mo_walk 266 = .ok (.istore 6, 2) := by decide +kernel
theorem d_Mo_walk_268 : decode b_Mo_walk 268 = .ok (.aload_n 0, 1) := by decide +kernel
theorem d_Mo_walk_269 : decode b_Mo_walk 269 = .ok (.getfield 57, 3) := by decide +kernel
theorem d_Mo_walk_272 : decode b_Mo_walk 272 = .ok (.iload 5, 2) := by decide +kernel
theorem d_Mo_walk_274 : decode b_Mo_walk 274 = .ok (.iload 6, 2) := by decide +kernel
theorem d_Mo_walk_276 : decode b_Mo_walk 276 = .ok (.iastore, 1) := by decide +kernel
theorem d_Mo_walk_277 : decode b_Mo_walk 277 = .ok (.aload_n 0, 1) := by decide +kernel
theorem d_Mo_walk_278 : decode b_Mo_walk 278 = .ok (.getfield 48, 3) := by decide +kernel
theorem d_Mo_walk_281 : decode b_Mo_walk 281 = .ok (.iload 6, 2) := by decide +kernel
theorem d_Mo_walk_283 : decode b_Mo_walk 283 = .ok (.iconst 0, 1) := by decide +kernel
theorem d_Mo_walk_284 : decode b_Mo_walk 284 = .ok (.bastore, 1) := by decide +kernel
theorem d_Mo_walk_285 : decode b_Mo_walk 285 = .ok (.iinc 5 1, 3) := by decide +kernel
theorem d_Mo_walk_288 : decode b_Mo_walk 288 = .ok (.goto (-37), 3) := by decide +kernel
theorem d_Mo_walk_291 : decode b_Mo_walk 291 = .ok (.aload_n 0, 1) := by decide +kernel
theorem d_Mo_walk_292 : decode b_Mo_walk 292 = .ok (.iload 4, 2) := by decide +kernel
theorem d_Mo_walk_294 : decode b_Mo_walk 294 = .ok (.putfield 83, 3) := by decide +kernel
theorem d_Mo_walk_297 : decode b_Mo_walk 297 = .ok (.aload_n 0, 1) := by decide +kernel
theorem d_Mo_walk_298 : decode b_Mo_walk 298 = .ok (.getfield 45, 3) := by decide +kernel
theorem d_Mo_walk_301 : decode b_Mo_walk 301 = .ok (.invokestatic 86, 3) := by decide +kernel
theorem d_Mo_walk_304 : decode b_Mo_walk 304 = .ok (.ireturn, 1) := by decide +kernel
theorem d_Mo_size_0 : decode b_Mo_size 0 = .ok (.iconst 0, 1) := by decide +kernel
theorem d_Mo_size_1 : decode b_Mo_size 1 = .ok (.istore_n 1, 1) := by decide +kernel
theorem d_Mo_size_2 : decode b_Mo_size 2 = .ok (.iconst 0, 1) := by decide +kernel
theorem d_Mo_size_3 : decode b_Mo_size 3 = .ok (.istore_n 2, 1) := by decide +kernel
theorem d_Mo_size_4 : decode b_Mo_size 4 = .ok (.iload_n 2, 1) := by decide +kernel
theorem d_Mo_size_5 : decode b_Mo_size 5 = .ok (.bipush 30, 2) := by decide +kernel
theorem d_Mo_size_7 : decode b_Mo_size 7 = .ok (.if_icmp .ge 18, 3) := by decide +kernel
theorem d_Mo_size_10 : decode b_Mo_size 10 = .ok (.aload_n 0, 1) := by decide +kernel
theorem d_Mo_size_11 : decode b_Mo_size 11 = .ok (.iload_n 2, 1) := by decide +kernel
theorem d_Mo_size_12 : decode b_Mo_size 12 = .ok (.baload, 1) := by decide +kernel
theorem d_Mo_size_13 : decode b_Mo_size 13 = .ok (.ifCond .eq 6, 3) := by decide +kernel
theorem d_Mo_size_16 : decode b_Mo_size 16 = .ok (.iinc 1 1, 3) := by decide +kernel
theorem d_Mo_size_19 : decode b_Mo_size 19 = .ok (.iinc 2 1, 3) := by decide +kernel
theorem d_Mo_size_22 : decode b_Mo_size 22 = .ok (.goto (-18), 3) := by decide +kernel
theorem d_Mo_size_25 : decode b_Mo_size 25 = .ok (.iload_n 1, 1) := by decide +kernel
theorem d_Mo_size_26 : decode b_Mo_size 26 = .ok (.ireturn, 1) := by decide +kernel
theorem d_Mo_farthest_0 : decode b_Mo_farthest 0 = .ok (.iconst (-1), 1) := by decide +kernel
theorem d_Mo_farthest_1 : decode b_Mo_farthest 1 = .ok (.istore_n 2, 1) := by decide +kernel
theorem d_Mo_farthest_2 : decode b_Mo_farthest 2 = .ok (.iconst 0, 1) := by decide +kernel
theorem d_Mo_farthest_3 : decode b_Mo_farthest 3 = .ok (.istore_n 3, 1) := by decide +kernel
theorem d_Mo_farthest_4 : decode b_Mo_farthest 4 = .ok (.iload_n 3, 1) := by decide +kernel
theorem d_Mo_farthest_5 : decode b_Mo_farthest 5 = .ok (.bipush 30, 2) := by decide +kernel
theorem d_Mo_farthest_7 : decode b_Mo_farthest 7 = .ok (.if_icmp .ge 30, 3) := by decide +kernel
theorem d_Mo_farthest_10 : decode b_Mo_farthest 10 = .ok (.aload_n 1, 1) := by decide +kernel
theorem d_Mo_farthest_11 : decode b_Mo_farthest 11 = .ok (.iload_n 3, 1) := by decide +kernel
theorem d_Mo_farthest_12 : decode b_Mo_farthest 12 = .ok (.baload, 1) := by decide +kernel
theorem d_Mo_farthest_13 : decode b_Mo_farthest 13 = .ok (.ifCond .eq 18, 3) := by decide +kernel
theorem d_Mo_farthest_16 : decode b_Mo_farthest 16 = .ok (.iload_n 2, 1) := by decide +kernel
theorem d_Mo_farthest_17 : decode b_Mo_farthest 17 = .ok (.ifCond .lt 12, 3) := by decide +kernel
theorem d_Mo_farthest_20 : decode b_Mo_farthest 20 = .ok (.aload_n 0, 1) := by decide +kernel
theorem d_Mo_farthest_21 : decode b_Mo_farthest 21 = .ok (.iload_n 2, 1) := by decide +kernel
theorem d_Mo_farthest_22 : decode b_Mo_farthest 22 = .ok (.iload_n 3, 1) := by decide +kernel
theorem d_Mo_farthest_23 : decode b_Mo_farthest 23 = .ok (.invokevirtual 79, 3) := by decide +kernel
theorem d_Mo_farthest_26 : decode b_Mo_farthest 26 = .ok (.ifCond .eq 5, 3) := by decide +kernel
theorem d_Mo_farthest_29 : decode b_Mo_farthest 29 = .ok (.iload_n 3, 1) := by decide +kernel
theorem d_Mo_farthest_30 : decode b_Mo_farthest 30 = .ok (.istore_n 2, 1) := by decide +kernel
theorem d_Mo_farthest_31 : decode b_Mo_farthest 31 = .ok (.iinc 3 1, 3) := by decide +kernel
theorem d_Mo_farthest_34 : decode b_Mo_farthest 34 = .ok (.goto (-30), 3) := by decide +kernel
theorem d_Mo_farthest_37 : decode b_Mo_farthest 37 = .ok (.iload_n 2, 1) := by decide +kernel
theorem d_Mo_farthest_38 : decode b_Mo_farthest 38 = .ok (.ireturn, 1) := by decide +kernel
theorem d_Mo_isNearer_0 : decode b_Mo_isNearer 0 = .ok (.aload_n 0, 1) := by decide +kernel
theorem d_Mo_isNearer_1 : decode b_Mo_isNearer 1 = .ok (.iload_n 1, 1) := by decide +kernel
theorem d_Mo_isNearer_2 : decode b_Mo_isNearer 2 = .ok (.invokevirtual 75, 3) := by decide +kernel
theorem d_Mo_isNearer_5 : decode b_Mo_isNearer 5 = .ok (.aload_n 0, 1) := by decide +kernel
theorem d_Mo_isNearer_6 : decode b_Mo_isNearer 6 = .ok (.iload_n 2, 1) := by decide +kernel
theorem d_Mo_isNearer_7 : decode b_Mo_isNearer 7 = .ok (.invokevirtual 75, 3) := by decide +kernel
theorem d_Mo_isNearer_10 : decode b_Mo_isNearer 10 = .ok (.if_icmp .lt 21, 3) := by decide +kernel
theorem d_Mo_isNearer_13 : decode b_Mo_isNearer 13 = .ok (.aload_n 0, 1) := by decide +kernel
theorem d_Mo_isNearer_14 : decode b_Mo_isNearer 14 = .ok (.iload_n 1, 1) := by decide +kernel
theorem d_Mo_isNearer_15 : decode b_Mo_isNearer 15 = .ok (.invokevirtual 75, 3) := by decide +kernel
theorem d_Mo_isNearer_18 : decode b_Mo_isNearer 18 = .ok (.aload_n 0, 1) := by decide +kernel
theorem d_Mo_isNearer_19 : decode b_Mo_isNearer 19 = .ok (.iload_n 2, 1) := by decide +kernel
theorem d_Mo_isNearer_20 : decode b_Mo_isNearer 20 = .ok (.invokevirtual 75, 3) := by decide +kernel
theorem d_Mo_isNearer_23 : decode b_Mo_isNearer 23 = .ok (.if_icmp .ne 12, 3) := by decide +kernel
theorem d_Mo_isNearer_26 : decode b_Mo_isNearer 26 = .ok (.iload_n 1, 1) := by decide +kernel
theorem d_Mo_isNearer_27 : decode b_Mo_isNearer 27 = .ok (.iload_n 2, 1) := by decide +kernel
theorem d_Mo_isNearer_28 : decode b_Mo_isNearer 28 = .ok (.if_icmp .ge 7, 3) := by decide +kernel
theorem d_Mo_isNearer_31 : decode b_Mo_isNearer 31 = .ok (.iconst 1, 1) := by decide +kernel
theorem d_Mo_isNearer_32 : decode b_Mo_isNearer 32 = .ok (.goto 4, 3) := by decide +kernel
theorem d_Mo_isNearer_35 : decode b_Mo_isNearer 35 = .ok (.iconst 0, 1) := by decide +kernel
theorem d_Mo_isNearer_36 : decode b_Mo_isNearer 36 = .ok (.ireturn, 1) := by decide +kernel
theorem d_Mo_far_0 : decode b_Mo_far 0 = .ok (.iconst 0, 1) := by decide +kernel
theorem d_Mo_far_1 : decode b_Mo_far 1 = .ok (.istore_n 2, 1) := by decide +kernel
theorem d_Mo_far_2 : decode b_Mo_far 2 = .ok (.iconst 0, 1) := by decide +kernel
theorem d_Mo_far_3 : decode b_Mo_far 3 = .ok (.istore_n 3, 1) := by decide +kernel
theorem d_Mo_far_4 : decode b_Mo_far 4 = .ok (.iload_n 3, 1) := by decide +kernel
theorem d_Mo_far_5 : decode b_Mo_far 5 = .ok (.iconst 4, 1) := by decide +kernel
theorem d_Mo_far_6 : decode b_Mo_far 6 = .ok (.if_icmp .ge 47, 3) := by decide +kernel
theorem d_Mo_far_9 : decode b_Mo_far 9 = .ok (.iload_n 2, 1) := by decide +kernel
theorem d_Mo_far_10 : decode b_Mo_far 10 = .ok (.aload_n 0, 1) := by decide +kernel
theorem d_Mo_far_11 : decode b_Mo_far 11 = .ok (.getfield 16, 3) := by decide +kernel
theorem d_Mo_far_14 : decode b_Mo_far 14 = .ok (.iconst 4, 1) := by decide +kernel
theorem d_Mo_far_15 : decode b_Mo_far 15 = .ok (.iload_n 1, 1) := by decide +kernel
theorem d_Mo_far_16 : decode b_Mo_far 16 = .ok (.imul, 1) := by decide +kernel
theorem d_Mo_far_17 : decode b_Mo_far 17 = .ok (.iload_n 3, 1) := by decide +kernel
theorem d_Mo_far_18 : decode b_Mo_far 18 = .ok (.iadd, 1) := by decide +kernel
theorem d_Mo_far_19 : decode b_Mo_far 19 = .ok (.iaload, 1) := by decide +kernel
theorem d_Mo_far_20 : decode b_Mo_far 20 = .ok (.aload_n 0, 1) := by decide +kernel
theorem d_Mo_far_21 : decode b_Mo_far 21 = .ok (.getfield 39, 3) := by decide +kernel
theorem d_Mo_far_24 : decode b_Mo_far 24 = .ok (.iload_n 3, 1) := by decide +kernel
theorem d_Mo_far_25 : decode b_Mo_far 25 = .ok (.iaload, 1) := by decide +kernel
theorem d_Mo_far_26 : decode b_Mo_far 26 = .ok (.isub, 1) := by decide +kernel
theorem d_Mo_far_27 : decode b_Mo_far 27 = .ok (.aload_n 0, 1) := by decide +kernel
theorem d_Mo_far_28 : decode b_Mo_far 28 = .ok (.getfield 16, 3) := by decide +kernel
theorem d_Mo_far_31 : decode b_Mo_far 31 = .ok (.iconst 4, 1) := by decide +kernel
theorem d_Mo_far_32 : decode b_Mo_far 32 = .ok (.iload_n 1, 1) := by decide +kernel
theorem d_Mo_far_33 : decode b_Mo_far 33 = .ok (.imul, 1) := by decide +kernel
theorem d_Mo_far_34 : decode b_Mo_far 34 = .ok (.iload_n 3, 1) := by decide +kernel
theorem d_Mo_far_35 : decode b_Mo_far 35 = .ok (.iadd, 1) := by decide +kernel
theorem d_Mo_far_36 : decode b_Mo_far 36 = .ok (.iaload, 1) := by decide +kernel
theorem d_Mo_far_37 : decode b_Mo_far 37 = .ok (.aload_n 0, 1) := by decide +kernel
theorem d_Mo_far_38 : decode b_Mo_far 38 = .ok (.getfield 39, 3) := by decide +kernel
theorem d_Mo_far_41 : decode b_Mo_far 41 = .ok (.iload_n 3, 1) := by decide +kernel
theorem d_Mo_far_42 : decode b_Mo_far 42 = .ok (.iaload, 1) := by decide +kernel
theorem d_Mo_far_43 : decode b_Mo_far 43 = .ok (.isub, 1) := by decide +kernel
theorem d_Mo_far_44 : decode b_Mo_far 44 = .ok (.imul, 1) := by decide +kernel
theorem d_Mo_far_45 : decode b_Mo_far 45 = .ok (.iadd, 1) := by decide +kernel
theorem d_Mo_far_46 : decode b_Mo_far 46 = .ok (.istore_n 2, 1) := by decide +kernel
theorem d_Mo_far_47 : decode b_Mo_far 47 = .ok (.iinc 3 1, 3) := by decide +kernel
theorem d_Mo_far_50 : decode b_Mo_far 50 = .ok (.goto (-46), 3) := by decide +kernel
theorem d_Mo_far_53 : decode b_Mo_far 53 = .ok (.iload_n 2, 1) := by decide +kernel
theorem d_Mo_far_54 : decode b_Mo_far 54 = .ok (.ireturn, 1) := by decide +kernel
theorem d_Mo_nearest_0 : decode b_Mo_nearest 0 = .ok (.iconst (-1), 1) := by decide +kernel
theorem d_Mo_nearest_1 : decode b_Mo_nearest 1 = .ok (.istore_n 2, 1) := by decide +kernel
theorem d_Mo_nearest_2 : decode b_Mo_nearest 2 = .ok (.iconst 0, 1) := by decide +kernel
theorem d_Mo_nearest_3 : decode b_Mo_nearest 3 = .ok (.istore_n 3, 1) := by decide +kernel
theorem d_Mo_nearest_4 : decode b_Mo_nearest 4 = .ok (.iload_n 3, 1) := by decide +kernel
theorem d_Mo_nearest_5 : decode b_Mo_nearest 5 = .ok (.bipush 30, 2) := by decide +kernel
theorem d_Mo_nearest_7 : decode b_Mo_nearest 7 = .ok (.if_icmp .ge 30, 3) := by decide +kernel
theorem d_Mo_nearest_10 : decode b_Mo_nearest 10 = .ok (.aload_n 1, 1) := by decide +kernel
theorem d_Mo_nearest_11 : decode b_Mo_nearest 11 = .ok (.iload_n 3, 1) := by decide +kernel
theorem d_Mo_nearest_12 : decode b_Mo_nearest 12 = .ok (.baload, 1) := by decide +kernel
theorem d_Mo_nearest_13 : decode b_Mo_nearest 13 = .ok (.ifCond .eq 18, 3) := by decide +kernel
theorem d_Mo_nearest_16 : decode b_Mo_nearest 16 = .ok (.iload_n 2, 1) := by decide +kernel
theorem d_Mo_nearest_17 : decode b_Mo_nearest 17 = .ok (.ifCond .lt 12, 3) := by decide +kernel
theorem d_Mo_nearest_20 : decode b_Mo_nearest 20 = .ok (.aload_n 0, 1) := by decide +kernel
theorem d_Mo_nearest_21 : decode b_Mo_nearest 21 = .ok (.iload_n 3, 1) := by decide +kernel
theorem d_Mo_nearest_22 : decode b_Mo_nearest 22 = .ok (.iload_n 2, 1) := by decide +kernel
theorem d_Mo_nearest_23 : decode b_Mo_nearest 23 = .ok (.invokevirtual 79, 3) := by decide +kernel
theorem d_Mo_nearest_26 : decode b_Mo_nearest 26 = .ok (.ifCond .eq 5, 3) := by decide +kernel
theorem d_Mo_nearest_29 : decode b_Mo_nearest 29 = .ok (.iload_n 3, 1) := by decide +kernel
theorem d_Mo_nearest_30 : decode b_Mo_nearest 30 = .ok (.istore_n 2, 1) := by decide +kernel
theorem d_Mo_nearest_31 : decode b_Mo_nearest 31 = .ok (.iinc 3 1, 3) := by decide +kernel
theorem d_Mo_nearest_34 : decode b_Mo_nearest 34 = .ok (.goto (-30), 3) := by decide +kernel
theorem d_Mo_nearest_37 : decode b_Mo_nearest 37 = .ok (.iload_n 2, 1) := by decide +kernel
theorem d_Mo_nearest_38 : decode b_Mo_nearest 38 = .ok (.ireturn, 1) := by decide +kernel
theorem d_Mo_look_0 : decode b_Mo_look 0 = .ok (.aload_n 0, 1) := by decide +kernel
theorem d_Mo_look_1 : decode b_Mo_look 1 = .ok (.getfield 45, 3) := by decide +kernel
theorem d_Mo_look_4 : decode b_Mo_look 4 = .ok (.iload_n 1, 1) := by decide +kernel
theorem d_Mo_look_5 : decode b_Mo_look 5 = .ok (.baload, 1) := by decide +kernel
theorem d_Mo_look_6 : decode b_Mo_look 6 = .ok (.ifCond .eq 4, 3) := by decide +kernel
theorem d_Mo_look_9 : decode b_Mo_look 9 = .ok (.return_, 1) := by decide +kernel
theorem d_Mo_look_10 : decode b_Mo_look 10 = .ok (.aload_n 0, 1) := by decide +kernel
theorem d_Mo_look_11 : decode b_Mo_look 11 = .ok (.getfield 45, 3) := by decide +kernel
theorem d_Mo_look_14 : decode b_Mo_look 14 = .ok (.iload_n 1, 1) := by decide +kernel
theorem d_Mo_look_15 : decode b_Mo_look 15 = .ok (.iconst 1, 1) := by decide +kernel
theorem d_Mo_look_16 : decode b_Mo_look 16 = .ok (.bastore, 1) := by decide +kernel
theorem d_Mo_look_17 : decode b_Mo_look 17 = .ok (.aload_n 0, 1) := by decide +kernel
theorem d_Mo_look_18 : decode b_Mo_look 18 = .ok (.getfield 48, 3) := by decide +kernel
theorem d_Mo_look_21 : decode b_Mo_look 21 = .ok (.invokestatic 86, 3) := by decide +kernel
theorem d_Mo_look_24 : decode b_Mo_look 24 = .ok (.iload_n 2, 1) := by decide +kernel
theorem d_Mo_look_25 : decode b_Mo_look 25 = .ok (.if_icmp .ne 20, 3) := by decide +kernel
theorem d_Mo_look_28 : decode b_Mo_look 28 = .ok (.aload_n 0, 1) := by decide +kernel
theorem d_Mo_look_29 : decode b_Mo_look 29 = .ok (.iload_n 1, 1) := by decide +kernel
theorem d_Mo_look_30 : decode b_Mo_look 30 = .ok (.aload_n 0, 1) := by decide +kernel
theorem d_Mo_look_31 : decode b_Mo_look 31 = .ok (.aload_n 0, 1) := by decide +kernel
theorem d_Mo_look_32 : decode b_Mo_look 32 = .ok (.getfield 48, 3) := by decide +kernel
theorem d_Mo_look_35 : decode b_Mo_look 35 = .ok (.invokevirtual 90, 3) := by decide +kernel
theorem d_Mo_look_38 : decode b_Mo_look 38 = .ok (.invokevirtual 79, 3) := by decide +kernel
theorem d_Mo_look_41 : decode b_Mo_look 41 = .ok (.ifCond .ne 4, 3) := by decide +kernel
theorem d_Mo_look_44 : decode b_Mo_look 44 = .ok (.return_, 1) := by decide +kernel
theorem d_Mo_look_45 : decode b_Mo_look 45 = .ok (.aload_n 0, 1) := by decide +kernel
theorem d_Mo_look_46 : decode b_Mo_look 46 = .ok (.getfield 48, 3) := by decide +kernel
theorem d_Mo_look_49 : decode b_Mo_look 49 = .ok (.iload_n 1, 1) := by decide +kernel
theorem d_Mo_look_50 : decode b_Mo_look 50 = .ok (.iconst 1, 1) := by decide +kernel
theorem d_Mo_look_51 : decode b_Mo_look 51 = .ok (.bastore, 1) := by decide +kernel
theorem d_Mo_look_52 : decode b_Mo_look 52 = .ok (.aload_n 0, 1) := by decide +kernel
theorem d_Mo_look_53 : decode b_Mo_look 53 = .ok (.getfield 51, 3) := by decide +kernel
theorem d_Mo_look_56 : decode b_Mo_look 56 = .ok (.iload_n 1, 1) := by decide +kernel
theorem d_Mo_look_57 : decode b_Mo_look 57 = .ok (.iconst 1, 1) := by decide +kernel
theorem d_Mo_look_58 : decode b_Mo_look 58 = .ok (.bastore, 1) := by decide +kernel
theorem d_Mo_look_59 : decode b_Mo_look 59 = .ok (.aload_n 0, 1) := by decide +kernel
theorem d_Mo_look_60 : decode b_Mo_look 60 = .ok (.getfield 48, 3) := by decide +kernel
theorem d_Mo_look_63 : decode b_Mo_look 63 = .ok (.invokestatic 86, 3) := by decide +kernel
theorem d_Mo_look_66 : decode b_Mo_look 66 = .ok (.iload_n 2, 1) := by decide +kernel
theorem d_Mo_look_67 : decode b_Mo_look 67 = .ok (.if_icmp .le 17, 3) := by decide +kernel
theorem d_Mo_look_70 : decode b_Mo_look 70 = .ok (.aload_n 0, 1) := by decide +kernel
theorem d_Mo_look_71 : decode b_Mo_look 71 = .ok (.getfield 48, 3) := by decide +kernel
theorem d_Mo_look_74 : decode b_Mo_look 74 = .ok (.aload_n 0, 1) := by decide +kernel
theorem d_Mo_look_75 : decode b_Mo_look 75 = .ok (.aload_n 0, 1) := by decide +kernel
theorem d_Mo_look_76 : decode b_Mo_look 76 = .ok (.getfield 48, 3) := by decide +kernel
theorem d_Mo_look_79 : decode b_Mo_look 79 = .ok (.invokevirtual 90, 3) := by decide +kernel
theorem d_Mo_look_82 : decode b_Mo_look 82 = .ok (.iconst 0, 1) := by decide +kernel
theorem d_Mo_look_83 : decode b_Mo_look 83 = .ok (.bastore, 1) := by decide +kernel
theorem d_Mo_look_84 : decode b_Mo_look 84 = .ok (.return_, 1) := by decide +kernel
theorem d_Mo_tie_0 : decode b_Mo_tie 0 = .ok (.aload_n 0, 1) := by decide +kernel
theorem d_Mo_tie_1 : decode b_Mo_tie 1 = .ok (.aload_n 0, 1) := by decide +kernel
theorem d_Mo_tie_2 : decode b_Mo_tie 2 = .ok (.getfield 83, 3) := by decide +kernel
theorem d_Mo_tie_5 : decode b_Mo_tie 5 = .ok (.putfield 100, 3) := by decide +kernel
theorem d_Mo_tie_8 : decode b_Mo_tie 8 = .ok (.iconst 0, 1) := by decide +kernel
theorem d_Mo_tie_9 : decode b_Mo_tie 9 = .ok (.istore_n 3, 1) := by decide +kernel
theorem d_Mo_tie_10 : decode b_Mo_tie 10 = .ok (.iload_n 3, 1) := by decide +kernel
theorem d_Mo_tie_11 : decode b_Mo_tie 11 = .ok (.aload_n 0, 1) := by decide +kernel
theorem d_Mo_tie_12 : decode b_Mo_tie 12 = .ok (.getfield 83, 3) := by decide +kernel
theorem d_Mo_tie_15 : decode b_Mo_tie 15 = .ok (.if_icmp .ge 21, 3) := by decide +kernel
theorem d_Mo_tie_18 : decode b_Mo_tie 18 = .ok (.aload_n 0, 1) := by decide +kernel
theorem d_Mo_tie_19 : decode b_Mo_tie 19 = .ok (.getfield 63, 3) := by decide +kernel
theorem d_Mo_tie_22 : decode b_Mo_tie 22 = .ok (.iload_n 3, 1) := by decide +kernel
theorem d_Mo_tie_23 : decode b_Mo_tie 23 = .ok (.aload_n 0, 1) := by decide +kernel
theorem d_Mo_tie_24 : decode b_Mo_tie 24 = .ok (.getfield 57, 3) := by decide +kernel
theorem d_Mo_tie_27 : decode b_Mo_tie 27 = .ok (.iload_n 3, 1) := by decide +kernel
theorem d_Mo_tie_28 : decode b_Mo_tie 28 = .ok (.iaload, 1) := by decide +kernel
theorem d_Mo_tie_29 : decode b_Mo_tie 29 = .ok (.iastore, 1) := by decide +kernel
theorem d_Mo_tie_30 : decode b_Mo_tie 30 = .ok (.iinc 3 1, 3) := by decide +kernel
theorem d_Mo_tie_33 : decode b_Mo_tie 33 = .ok (.goto (-23), 3) := by decide +kernel
theorem d_Mo_tie_36 : decode b_Mo_tie 36 = .ok (.aload_n 0, 1) := by decide +kernel
theorem d_Mo_tie_37 : decode b_Mo_tie 37 = .ok (.iconst 3, 1) := by decide +kernel
theorem d_Mo_tie_38 : decode b_Mo_tie 38 = .ok (.invokevirtual 130, 3) := by decide +kernel
theorem d_Mo_tie_41 : decode b_Mo_tie 41 = .ok (.aload_n 0, 1) := by decide +kernel
theorem d_Mo_tie_42 : decode b_Mo_tie 42 = .ok (.iconst 4, 1) := by decide +kernel
theorem d_Mo_tie_43 : decode b_Mo_tie 43 = .ok (.iload_n 1, 1) := by decide +kernel
theorem d_Mo_tie_44 : decode b_Mo_tie 44 = .ok (.imul, 1) := by decide +kernel
theorem d_Mo_tie_45 : decode b_Mo_tie 45 = .ok (.iload_n 2, 1) := by decide +kernel
theorem d_Mo_tie_46 : decode b_Mo_tie 46 = .ok (.iadd, 1) := by decide +kernel
theorem d_Mo_tie_47 : decode b_Mo_tie 47 = .ok (.invokevirtual 133, 3) := by decide +kernel
theorem d_Mo_tie_50 : decode b_Mo_tie 50 = .ok (.iload_n 2, 1) := by decide +kernel
theorem d_Mo_tie_51 : decode b_Mo_tie 51 = .ok (.ifCond .ne 8, 3) := by decide +kernel
theorem d_Mo_tie_54 : decode b_Mo_tie 54 = .ok (.bipush 6, 2) := by decide +kernel
theorem d_Mo_tie_56 : decode b_Mo_tie 56 = .ok (.goto 4, 3) := by decide +kernel
theorem d_Mo_tie_59 : decode b_Mo_tie 59 = .ok (.iconst 3, 1) := by decide +kernel
theorem d_Mo_tie_60 : decode b_Mo_tie 60 = .ok (.istore_n 3, 1) := by decide +kernel
theorem d_Mo_tie_61 : decode b_Mo_tie 61 = .ok (.iconst 0, 1) := by decide +kernel
theorem d_Mo_tie_62 : decode b_Mo_tie 62 = .ok (.istore 4, 2) := by decide +kernel
theorem d_Mo_tie_64 : decode b_Mo_tie 64 = .ok (.iload 4, 2) := by decide +kernel
theorem d_Mo_tie_66 : decode b_Mo_tie 66 = .ok (.aload_n 0, 1) := by decide +kernel
theorem d_Mo_tie_67 : decode b_Mo_tie 67 = .ok (.getfield 32, 3) := by decide +kernel
theorem d_Mo_tie_70 : decode b_Mo_tie 70 = .ok (.iconst 4, 1) := by decide +kernel
theorem d_Mo_tie_71 : decode b_Mo_tie 71 = .ok (.iload_n 1, 1) := by decide +kernel
theorem d_Mo_tie_72 : decode b_Mo_tie 72 = .ok (.imul, 1) := by decide +kernel
theorem d_Mo_tie_73 : decode b_Mo_tie 73 = .ok (.iload_n 2, 1) := by decide +kernel
theorem d_Mo_tie_74 : decode b_Mo_tie 74 = .ok (.iadd, 1) := by decide +kernel
theorem d_Mo_tie_75 : decode b_Mo_tie 75 = .ok (.iaload, 1) := by decide +kernel
theorem d_Mo_tie_76 : decode b_Mo_tie 76 = .ok (.if_icmp .ge 145, 3) := by decide +kernel
theorem d_Mo_tie_79 : decode b_Mo_tie 79 = .ok (.aload_n 0, 1) := by decide +kernel
theorem d_Mo_tie_80 : decode b_Mo_tie 80 = .ok (.getfield 29, 3) := by decide +kernel
theorem d_Mo_tie_83 : decode b_Mo_tie 83 = .ok (.bipush 7, 2) := by decide +kernel
theorem d_Mo_tie_85 : decode b_Mo_tie 85 = .ok (.iconst 4, 1) := by decide +kernel
theorem d_Mo_tie_86 : decode b_Mo_tie 86 = .ok (.iload_n 1, 1) := by decide +kernel
theorem d_Mo_tie_87 : decode b_Mo_tie 87 = .ok (.imul, 1) := by decide +kernel
theorem d_Mo_tie_88 : decode b_Mo_tie 88 = .ok (.iload_n 2, 1) := by decide +kernel
theorem d_Mo_tie_89 : decode b_Mo_tie 89 = .ok (.iadd, 1) := by decide +kernel
theorem d_Mo_tie_90 : decode b_Mo_tie 90 = .ok (.imul, 1) := by decide +kernel
theorem d_Mo_tie_91 : decode b_Mo_tie 91 = .ok (.iload 4, 2) := by decide +kernel
theorem d_Mo_tie_93 : decode b_Mo_tie 93 = .ok (.iadd, 1) := by decide +kernel
theorem d_Mo_tie_94 : decode b_Mo_tie 94 = .ok (.iaload, 1) := by decide +kernel
theorem d_Mo_tie_95 : decode b_Mo_tie 95 = .ok (.istore 5, 2) := by decide +kernel
theorem d_Mo_tie_97 : decode b_Mo_tie 97 = .ok (.iconst 4, 1) := by decide +kernel
theorem d_Mo_tie_98 : decode b_Mo_tie 98 = .ok (.iload 5, 2) := by decide +kernel
theorem d_Mo_tie_100 : decode b_Mo_tie 100 = .ok (.imul, 1) := by decide +kernel
theorem d_Mo_tie_101 : decode b_Mo_tie 101 = .ok (.iload_n 2, 1) := by decide +kernel
theorem d_Mo_tie_102 : decode b_Mo_tie 102 = .ok (.iadd, 1) := by decide +kernel
theorem d_Mo_tie_103 : decode b_Mo_tie 103 = .ok (.istore 6, 2) := by decide +kernel
theorem d_Mo_tie_105 : decode b_Mo_tie 105 = .ok (.aload_n 0, 1) := by decide +kernel
theorem d_Mo_tie_106 : decode b_Mo_tie 106 = .ok (.getfield 29, 3) := by decide +kernel
theorem d_Mo_tie_109 : decode b_Mo_tie 109 = .ok (.bipush 7, 2) := by decide +kernel
theorem d_Mo_tie_111 : decode b_Mo_tie 111 = .ok (.iload 6, 2) := by decide +kernel
theorem d_Mo_tie_113 : decode b_Mo_tie 113 = .ok (.imul, 1) := by decide +kernel
theorem d_Mo_tie_114 : decode b_Mo_tie 114 = .ok (.aload_n 0, 1) := by decide +kernel
theorem d_Mo_tie_115 : decode b_Mo_tie 115 = .ok (.getfield 32, 3) := by decide +kernel
theorem d_Mo_tie_118 : decode b_Mo_tie 118 = .ok (.iload 6, 2) := by decide +kernel
theorem d_Mo_tie_120 : decode b_Mo_tie 120 = .ok (.iaload, 1) := by decide +kernel
theorem d_Mo_tie_121 : decode b_Mo_tie 121 = .ok (.iadd, 1) := by decide +kernel
theorem d_Mo_tie_122 : decode b_Mo_tie 122 = .ok (.iload_n 1, 1) := by decide +kernel
theorem d_Mo_tie_123 : decode b_Mo_tie 123 = .ok (.iastore, 1) := by decide +kernel
theorem d_Mo_tie_124 : decode b_Mo_tie 124 = .ok (.aload_n 0, 1) := by decide +kernel
theorem d_Mo_tie_125 : decode b_Mo_tie 125 = .ok (.getfield 32, 3) := by decide +kernel
theorem d_Mo_tie_128 : decode b_Mo_tie 128 = .ok (.iload 6, 2) := by decide +kernel
theorem d_Mo_tie_130 : decode b_Mo_tie 130 = .ok (.dup2, 1) := by decide +kernel
theorem d_Mo_tie_131 : decode b_Mo_tie 131 = .ok (.iaload, 1) := by decide +kernel
theorem d_Mo_tie_132 : decode b_Mo_tie 132 = .ok (.iconst 1, 1) := by decide +kernel
theorem d_Mo_tie_133 : decode b_Mo_tie 133 = .ok (.iadd, 1) := by decide +kernel
theorem d_Mo_tie_134 : decode b_Mo_tie 134 = .ok (.iastore, 1) := by decide +kernel
theorem d_Mo_tie_135 : decode b_Mo_tie 135 = .ok (.aload_n 0, 1) := by decide +kernel
theorem d_Mo_tie_136 : decode b_Mo_tie 136 = .ok (.getfield 32, 3) := by decide +kernel
theorem d_Mo_tie_139 : decode b_Mo_tie 139 = .ok (.iload 6, 2) := by decide +kernel
theorem d_Mo_tie_141 : decode b_Mo_tie 141 = .ok (.iaload, 1) := by decide +kernel
theorem d_Mo_tie_142 : decode b_Mo_tie 142 = .ok (.iload_n 3, 1) := by decide +kernel
theorem d_Mo_tie_143 : decode b_Mo_tie 143 = .ok (.if_icmp .gt 6, 3) := by decide +kernel
theorem d_Mo_tie_146 : decode b_Mo_tie 146 = .ok (.goto 69, 3) := by decide +kernel
theorem d_Mo_tie_149 : decode b_Mo_tie 149 = .ok (.aload_n 0, 1) := by decide +kernel
theorem d_Mo_tie_150 : decode b_Mo_tie 150 = .ok (.iload 5, 2) := by decide +kernel
theorem d_Mo_tie_152 : decode b_Mo_tie 152 = .ok (.invokevirtual 117, 3) := by decide +kernel
theorem d_Mo_tie_155 : decode b_Mo_tie 155 = .ok (.aload_n 0, 1) := by decide +kernel
theorem d_Mo_tie_156 : decode b_Mo_tie 156 = .ok (.aload_n 0, 1) := by decide +kernel
theorem d_Mo_tie_157 : decode b_Mo_tie 157 = .ok (.getfield 32, 3) := by decide +kernel
theorem d_Mo_tie_160 : decode b_Mo_tie 160 = .ok (.iload 6, 2) := by decide +kernel
theorem d_Mo_tie_162 : decode b_Mo_tie 162 = .ok (.iaload, 1) := by decide +kernel
theorem d_Mo_tie_163 : decode b_Mo_tie 163 = .ok (.putfield 100, 3) := by decide +kernel
theorem d_Mo_tie_166 : decode b_Mo_tie 166 = .ok (.iconst 0, 1) := by decide +kernel
theorem d_Mo_tie_167 : decode b_Mo_tie 167 = .ok (.istore 7, 2) := by decide +kernel
theorem d_Mo_tie_169 : decode b_Mo_tie 169 = .ok (.iload 7, 2) := by decide +kernel
theorem d_Mo_tie_171 : decode b_Mo_tie 171 = .ok (.aload_n 0, 1) := by decide +kernel
theorem d_Mo_tie_172 : decode b_Mo_tie 172 = .ok (.getfield 100, 3) := by decide +kernel
theorem d_Mo_tie_175 : decode b_Mo_tie 175 = .ok (.if_icmp .ge 29, 3) := by decide +kernel
theorem d_Mo_tie_178 : decode b_Mo_tie 178 = .ok (.aload_n 0, 1) := by decide +kernel
theorem d_Mo_tie_179 : decode b_Mo_tie 179 = .ok (.getfield 63, 3) := by decide +kernel
theorem d_Mo_tie_182 : decode b_Mo_tie 182 = .ok (.iload 7, 2) := by decide +kernel
theorem d_Mo_tie_184 : decode b_Mo_tie 184 = .ok (.aload_n 0, 1) := by decide +kernel
theorem d_Mo_tie_185 : decode b_Mo_tie 185 = .ok (.getfield 29, 3) := by decide +kernel
theorem d_Mo_tie_188 : decode b_Mo_tie 188 = .ok (.bipush 7, 2) := by decide +kernel
theorem d_Mo_tie_190 : decode b_Mo_tie 190 = .ok (.iload 6, 2) := by decide +kernel
theorem d_Mo_tie_192 : decode b_Mo_tie 192 = .ok (.imul, 1) := by decide +kernel
theorem d_Mo_tie_193 : decode b_Mo_tie 193 = .ok (.iload 7, 2) := by decide +kernel
theorem d_Mo_tie_195 : decode b_Mo_tie 195 = .ok (.iadd, 1) := by decide +kernel
theorem d_Mo_tie_196 : decode b_Mo_tie 196 = .ok (.iaload, 1) := by decide +kernel
theorem d_Mo_tie_197 : decode b_Mo_tie 197 = .ok (.iastore, 1) := by decide +kernel
theorem d_Mo_tie_198 : decode b_Mo_tie 198 = .ok (.iinc 7 1, 3) := by decide +kernel
theorem d_Mo_tie_201 : decode b_Mo_tie 201 = .ok (.goto (-32), 3) := by decide +kernel
theorem d_Mo_tie_204 : decode b_Mo_tie 204 = .ok (.aload_n 0, 1) := by decide +kernel
theorem d_Mo_tie_205 : decode b_Mo_tie 205 = .ok (.iload_n 3, 1) := by decide +kernel
theorem d_Mo_tie_206 : decode b_Mo_tie 206 = .ok (.invokevirtual 130, 3) := by decide +kernel
theorem d_Mo_tie_209 : decode b_Mo_tie 209 = .ok (.aload_n 0, 1) := by decide +kernel
theorem d_Mo_tie_210 : decode b_Mo_tie 210 = .ok (.iload 6, 2) := by decide +kernel
theorem d_Mo_tie_212 : decode b_Mo_tie 212 = .ok (.invokevirtual 133, 3) := by decide +kernel
theorem d_Mo_tie_215 : decode b_Mo_tie 215 = .ok (.iinc 4 1, 3) := by decide +kernel
theorem d_Mo_tie_218 : decode b_Mo_tie 218 = .ok (.goto (-154), 3) := by decide +kernel
theorem d_Mo_tie_221 : decode b_Mo_tie 221 = .ok (.return_, 1) := by decide +kernel
theorem d_Mo_choose_0 : decode b_Mo_choose 0 = .ok (.iconst 0, 1) := by decide +kernel
theorem d_Mo_choose_1 : decode b_Mo_choose 1 = .ok (.istore_n 2, 1) := by decide +kernel
theorem d_Mo_choose_2 : decode b_Mo_choose 2 = .ok (.iload_n 2, 1) := by decide +kernel
theorem d_Mo_choose_3 : decode b_Mo_choose 3 = .ok (.bipush 30, 2) := by decide +kernel
theorem d_Mo_choose_5 : decode b_Mo_choose 5 = .ok (.if_icmp .ge 23, 3) := by decide +kernel
theorem d_Mo_choose_8 : decode b_Mo_choose 8 = .ok (.aload_n 0, 1) := by decide +kernel
theorem d_Mo_choose_9 : decode b_Mo_choose 9 = .ok (.getfield 51, 3) := by decide +kernel
theorem d_Mo_choose_12 : decode b_Mo_choose 12 = .ok (.iload_n 2, 1) := by decide +kernel
theorem d_Mo_choose_13 : decode b_Mo_choose 13 = .ok (.iconst 0, 1) := by decide +kernel
theorem d_Mo_choose_14 : decode b_Mo_choose 14 = .ok (.bastore, 1) := by decide +kernel
theorem d_Mo_choose_15 : decode b_Mo_choose 15 = .ok (.aload_n 0, 1) := by decide +kernel
theorem d_Mo_choose_16 : decode b_Mo_choose 16 = .ok (.getfield 54, 3) := by decide +kernel
theorem d_Mo_choose_19 : decode b_Mo_choose 19 = .ok (.iload_n 2, 1) := by decide +kernel
theorem d_Mo_choose_20 : decode b_Mo_choose 20 = .ok (.iconst 0, 1) := by decide +kernel
theorem d_Mo_choose_21 : decode b_Mo_choose 21 = .ok (.bastore, 1) := by decide +kernel
theorem d_Mo_choose_22 : decode b_Mo_choose 22 = .ok (.iinc 2 1, 3) := by decide +kernel
theorem d_Mo_choose_25 : decode b_Mo_choose 25 = .ok (.goto (-23), 3) := by decide +kernel
theorem d_Mo_choose_28 : decode b_Mo_choose 28 = .ok (.iconst 0, 1) := by decide +kernel
theorem d_Mo_choose_29 : decode b_Mo_choose 29 = .ok (.istore_n 2, 1) := by decide +kernel
theorem d_Mo_choose_30 : decode b_Mo_choose 30 = .ok (.iload_n 2, 1) := by decide +kernel
theorem d_Mo_choose_31 : decode b_Mo_choose 31 = .ok (.aload_n 0, 1) := by decide +kernel
theorem d_Mo_choose_32 : decode b_Mo_choose 32 = .ok (.getfield 100, 3) := by decide +kernel
theorem d_Mo_choose_35 : decode b_Mo_choose 35 = .ok (.if_icmp .ge 21, 3) := by decide +kernel
theorem d_Mo_choose_38 : decode b_Mo_choose 38 = .ok (.aload_n 0, 1) := by decide +kernel
theorem d_Mo_choose_39 : decode b_Mo_choose 39 = .ok (.getfield 51, 3) := by decide +kernel
theorem d_Mo_choose_42 : decode b_Mo_choose 42 = .ok (.aload_n 0, 1) := by decide +kernel
theorem d_Mo_choose_43 : decode b_Mo_choose 43 = .ok (.getfield 63, 3) := by decide +kernel
theorem d_Mo_choose_46 : decode b_Mo_choose 46 = .ok (.iload_n 2, 1) := by decide +kernel
theorem d_Mo_choose_47 : decode b_Mo_choose 47 = .ok (.iaload, 1) := by decide +kernel
theorem d_Mo_choose_48 : decode b_Mo_choose 48 = .ok (.iconst 1, 1) := by decide +kernel
theorem d_Mo_choose_49 : decode b_Mo_choose 49 = .ok (.bastore, 1) := by decide +kernel
theorem d_Mo_choose_50 : decode b_Mo_choose 50 = .ok (.iinc 2 1, 3) := by decide +kernel
theorem d_Mo_choose_53 : decode b_Mo_choose 53 = .ok (.goto (-23), 3) := by decide +kernel
theorem d_Mo_choose_56 : decode b_Mo_choose 56 = .ok (.aload_n 0, 1) := by decide +kernel
theorem d_Mo_choose_57 : decode b_Mo_choose 57 = .ok (.iconst 0, 1) := by decide +kernel
theorem d_Mo_choose_58 : decode b_Mo_choose 58 = .ok (.putfield 103, 3) := by decide +kernel
theorem d_Mo_choose_61 : decode b_Mo_choose 61 = .ok (.iconst 0, 1) := by decide +kernel
theorem d_Mo_choose_62 : decode b_Mo_choose 62 = .ok (.istore_n 2, 1) := by decide +kernel
theorem d_Mo_choose_63 : decode b_Mo_choose 63 = .ok (.iload_n 2, 1) := by decide +kernel
theorem d_Mo_choose_64 : decode b_Mo_choose 64 = .ok (.aload_n 0, 1) := by decide +kernel
theorem d_Mo_choose_65 : decode b_Mo_choose 65 = .ok (.getfield 100, 3) := by decide +kernel
theorem d_Mo_choose_68 : decode b_Mo_choose 68 = .ok (.if_icmp .ge 91, 3) := by decide +kernel
theorem d_Mo_choose_71 : decode b_Mo_choose 71 = .ok (.aload_n 0, 1) := by decide +kernel
theorem d_Mo_choose_72 : decode b_Mo_choose 72 = .ok (.aload_n 0, 1) := by decide +kernel
theorem d_Mo_choose_73 : decode b_Mo_choose 73 = .ok (.getfield 51, 3) := by decide +kernel
theorem d_Mo_choose_76 : decode b_Mo_choose 76 = .ok (.invokevirtual 93, 3) := by decide +kernel
theorem d_Mo_choose_79 : decode b_Mo_choose 79 = .ok (.istore_n 3, 1) := by decide +kernel
theorem d_Mo_choose_80 : decode b_Mo_choose 80 = .ok (.aload_n 0, 1) := by decide +kernel
theorem d_Mo_choose_81 : decode b_Mo_choose 81 = .ok (.getfield 51, 3) := by decide +kernel
theorem d_Mo_choose_84 : decode b_Mo_choose 84 = .ok (.iload_n 3, 1) := by decide +kernel
theorem d_Mo_choose_85 : decode b_Mo_choose 85 = .ok (.iconst 0, 1) := by decide +kernel
theorem d_Mo_choose_86 : decode b_Mo_choose 86 = .ok (.bastore, 1) := by decide +kernel
theorem d_Mo_choose_87 : decode b_Mo_choose 87 = .ok (.aload_n 0, 1) := by decide +kernel
theorem d_Mo_choose_88 : decode b_Mo_choose 88 = .ok (.getfield 103, 3) := by decide +kernel
theorem d_Mo_choose_91 : decode b_Mo_choose 91 = .ok (.iload_n 1, 1) := by decide +kernel
theorem d_Mo_choose_92 : decode b_Mo_choose 92 = .ok (.if_icmp .ge 7, 3) := by decide +kernel
theorem d_Mo_choose_95 : decode b_Mo_choose 95 = .ok (.iconst 1, 1) := by decide +kernel
theorem d_Mo_choose_96 : decode b_Mo_choose 96 = .ok (.goto 4, 3) := by decide +kernel
theorem d_Mo_choose_99 : decode b_Mo_choose 99 = .ok (.iconst 0, 1) := by decide +kernel
theorem d_Mo_choose_100 : decode b_Mo_choose 100 = .ok (.istore 4, 2) := by decide +kernel
theorem d_Mo_choose_102 : decode b_Mo_choose 102 = .ok (.iconst 0, 1) := by decide +kernel
theorem d_Mo_choose_103 : decode b_Mo_choose 103 = .ok (.istore 5, 2) := by decide +kernel
theorem d_Mo_choose_105 : decode b_Mo_choose 105 = .ok (.iload 5, 2) := by decide +kernel
theorem d_Mo_choose_107 : decode b_Mo_choose 107 = .ok (.aload_n 0, 1) := by decide +kernel
theorem d_Mo_choose_108 : decode b_Mo_choose 108 = .ok (.getfield 103, 3) := by decide +kernel
theorem d_Mo_choose_111 : decode b_Mo_choose 111 = .ok (.if_icmp .ge 32, 3) := by decide +kernel
theorem d_Mo_choose_114 : decode b_Mo_choose 114 = .ok (.aload_n 0, 1) := by decide +kernel
theorem d_Mo_choose_115 : decode b_Mo_choose 115 = .ok (.iload_n 3, 1) := by decide +kernel
theorem d_Mo_choose_116 : decode b_Mo_choose 116 = .ok (.invokevirtual 75, 3) := by decide +kernel
theorem d_Mo_choose_119 : decode b_Mo_choose 119 = .ok (.aload_n 0, 1) := by decide +kernel
theorem d_Mo_choose_120 : decode b_Mo_choose 120 = .ok (.iload_n 3, 1) := by decide +kernel
theorem d_Mo_choose_121 : decode b_Mo_choose 121 = .ok (.aload_n 0, 1) := by decide +kernel
theorem d_Mo_choose_122 : decode b_Mo_choose 122 = .ok (.getfield 60, 3) := by decide +kernel
theorem d_Mo_choose_125 : decode b_Mo_choose 125 = .ok (.iload 5, 2) := by decide +kernel
theorem d_Mo_choose_127 : decode b_Mo_choose 127 = .ok (.iaload, 1) := by decide +kernel
theorem d_Mo_choose_128 : decode b_Mo_choose 128 = .ok (.invokevirtual 106, 3) := by decide +kernel
theorem d_Mo_choose_131 : decode b_Mo_choose 131 = .ok (.if_icmp .lt 6, 3) := by decide +kernel
theorem d_Mo_choose_134 : decode b_Mo_choose 134 = .ok (.iconst 0, 1) := by decide +kernel
theorem d_Mo_choose_135 : decode b_Mo_choose 135 = .ok (.istore 4, 2) := by decide +kernel
theorem d_Mo_choose_137 : decode b_Mo_choose 137 = .ok (.iinc 5 1, 3) := by decide +kernel
theorem d_Mo_choose_140 : decode b_Mo_choose 140 = .ok (.goto (-35), 3) := by decide +kernel
theorem d_Mo_choose_143 : decode b_Mo_choose 143 = .ok (.iload 4, 2) := by decide +kernel
theorem d_Mo_choose_145 : decode b_Mo_choose 145 = .ok (.ifCond .eq 8, 3) := by decide +kernel
theorem d_Mo_choose_148 : decode b_Mo_choose 148 = .ok (.aload_n 0, 1) := by decide +kernel
theorem d_Mo_choose_149 : decode b_Mo_choose 149 = .ok (.iload_n 3, 1) := by decide +kernel
theorem d_Mo_choose_150 : decode b_Mo_choose 150 = .ok (.invokevirtual 110, 3) := by decide +kernel
theorem d_Mo_choose_153 : decode b_Mo_choose 153 = .ok (.iinc 2 1, 3) := by decide +kernel
theorem d_Mo_choose_156 : decode b_Mo_choose 156 = .ok (.goto (-93), 3) := by decide +kernel
theorem d_Mo_choose_159 : decode b_Mo_choose 159 = .ok (.iconst 0, 1) := by decide +kernel
theorem d_Mo_choose_160 : decode b_Mo_choose 160 = .ok (.istore_n 2, 1) := by decide +kernel
theorem d_Mo_choose_161 : decode b_Mo_choose 161 = .ok (.iload_n 2, 1) := by decide +kernel
theorem d_Mo_choose_162 : decode b_Mo_choose 162 = .ok (.aload_n 0, 1) := by decide +kernel
theorem d_Mo_choose_163 : decode b_Mo_choose 163 = .ok (.getfield 100, 3) := by decide +kernel
theorem d_Mo_choose_166 : decode b_Mo_choose 166 = .ok (.if_icmp .ge 39, 3) := by decide +kernel
theorem d_Mo_choose_169 : decode b_Mo_choose 169 = .ok (.aload_n 0, 1) := by decide +kernel
theorem d_Mo_choose_170 : decode b_Mo_choose 170 = .ok (.getfield 51, 3) := by decide +kernel
theorem d_Mo_choose_173 : decode b_Mo_choose 173 = .ok (.aload_n 0, 1) := by decide +kernel
theorem d_Mo_choose_174 : decode b_Mo_choose 174 = .ok (.getfield 63, 3) := by decide +kernel
theorem d_Mo_choose_177 : decode b_Mo_choose 177 = .ok (.iload_n 2, 1) := by decide +kernel
theorem d_Mo_choose_178 : decode b_Mo_choose 178 = .ok (.iaload, 1) := by decide +kernel
theorem d_Mo_choose_179 : decode b_Mo_choose 179 = .ok (.aload_n 0, 1) := by decide +kernel
theorem d_Mo_choose_180 : decode b_Mo_choose 180 = .ok (.getfield 54, 3) := by decide +kernel
theorem d_Mo_choose_183 : decode b_Mo_choose 183 = .ok (.aload_n 0, 1) := by decide +kernel
theorem d_Mo_choose_184 : decode b_Mo_choose 184 = .ok (.getfield 63, 3) := by decide +kernel
theorem d_Mo_choose_187 : decode b_Mo_choose 187 = .ok (.iload_n 2, 1) := by decide +kernel
theorem d_Mo_choose_188 : decode b_Mo_choose 188 = .ok (.iaload, 1) := by decide +kernel
theorem d_Mo_choose_189 : decode b_Mo_choose 189 = .ok (.baload, 1) := by decide +kernel
theorem d_Mo_choose_190 : decode b_Mo_choose 190 = .ok (.ifCond .ne 7, 3) := by decide +kernel
theorem d_Mo_choose_193 : decode b_Mo_choose 193 = .ok (.iconst 1, 1) := by decide +kernel
theorem d_Mo_choose_194 : decode b_Mo_choose 194 = .ok (.goto 4, 3) := by decide +kernel
theorem d_Mo_choose_197 : decode b_Mo_choose 197 = .ok (.iconst 0, 1) := by decide +kernel
theorem d_Mo_choose_198 : decode b_Mo_choose 198 = .ok (.bastore, 1) := by decide +kernel
theorem d_Mo_choose_199 : decode b_Mo_choose 199 = .ok (.iinc 2 1, 3) := by decide +kernel
theorem d_Mo_choose_202 : decode b_Mo_choose 202 = .ok (.goto (-41), 3) := by decide +kernel
theorem d_Mo_choose_205 : decode b_Mo_choose 205 = .ok (.aload_n 0, 1) := by decide +kernel
theorem d_Mo_choose_206 : decode b_Mo_choose 206 = .ok (.aload_n 0, 1) := by decide +kernel
theorem d_Mo_choose_207 : decode b_Mo_choose 207 = .ok (.getfield 51, 3) := by decide +kernel
theorem d_Mo_choose_210 : decode b_Mo_choose 210 = .ok (.invokevirtual 93, 3) := by decide +kernel
theorem d_Mo_choose_213 : decode b_Mo_choose 213 = .ok (.istore_n 2, 1) := by decide +kernel
theorem d_Mo_choose_214 : decode b_Mo_choose 214 = .ok (.iload_n 2, 1) := by decide +kernel
theorem d_Mo_choose_215 : decode b_Mo_choose 215 = .ok (.ifCond .lt 35, 3) := by decide +kernel
theorem d_Mo_choose_218 : decode b_Mo_choose 218 = .ok (.aload_n 0, 1) := by decide +kernel
theorem d_Mo_choose_219 : decode b_Mo_choose 219 = .ok (.getfield 103, 3) := by decide +kernel
theorem d_Mo_choose_222 : decode b_Mo_choose 222 = .ok (.iload_n 1, 1) := by decide +kernel
theorem d_Mo_choose_223 : decode b_Mo_choose 223 = .ok (.if_icmp .ge 27, 3) := by decide +kernel
theorem d_Mo_choose_226 : decode b_Mo_choose 226 = .ok (.aload_n 0, 1) := by decide +kernel
theorem d_Mo_choose_227 : decode b_Mo_choose 227 = .ok (.getfield 51, 3) := by decide +kernel
theorem d_Mo_choose_230 : decode b_Mo_choose 230 = .ok (.iload_n 2, 1) := by decide +kernel
theorem d_Mo_choose_231 : decode b_Mo_choose 231 = .ok (.iconst 0, 1) := by decide +kernel
theorem d_Mo_choose_232 : decode b_Mo_choose 232 = .ok (.bastore, 1) := by decide +kernel
theorem d_Mo_choose_233 : decode b_Mo_choose 233 = .ok (.aload_n 0, 1) := by decide +kernel
theorem d_Mo_choose_234 : decode b_Mo_choose 234 = .ok (.iload_n 2, 1) := by decide +kernel
theorem d_Mo_choose_235 : decode b_Mo_choose 235 = .ok (.invokevirtual 110, 3) := by decide +kernel
theorem d_Mo_choose_238 : decode b_Mo_choose 238 = .ok (.aload_n 0, 1) := by decide +kernel
theorem d_Mo_choose_239 : decode b_Mo_choose 239 = .ok (.aload_n 0, 1) := by decide +kernel
theorem d_Mo_choose_240 : decode b_Mo_choose 240 = .ok (.getfield 51, 3) := by decide +kernel
theorem d_Mo_choose_243 : decode b_Mo_choose 243 = .ok (.invokevirtual 93, 3) := by decide +kernel
theorem d_Mo_choose_246 : decode b_Mo_choose 246 = .ok (.istore_n 2, 1) := by decide +kernel
theorem d_Mo_choose_247 : decode b_Mo_choose 247 = .ok (.goto (-33), 3) := by decide +kernel
theorem d_Mo_choose_250 : decode b_Mo_choose 250 = .ok (.return_, 1) := by decide +kernel
theorem d_Mo_between_0 : decode b_Mo_between 0 = .ok (.iconst 0, 1) := by decide +kernel
theorem d_Mo_between_1 : decode b_Mo_between 1 = .ok (.istore_n 3, 1) := by decide +kernel
theorem d_Mo_between_2 : decode b_Mo_between 2 = .ok (.iconst 0, 1) := by decide +kernel
theorem d_Mo_between_3 : decode b_Mo_between 3 = .ok (.istore 4, 2) := by decide +kernel
theorem d_Mo_between_5 : decode b_Mo_between 5 = .ok (.iload 4, 2) := by decide +kernel
theorem d_Mo_between_7 : decode b_Mo_between 7 = .ok (.iconst 4, 1) := by decide +kernel
theorem d_Mo_between_8 : decode b_Mo_between 8 = .ok (.if_icmp .ge 59, 3) := by decide +kernel
theorem d_Mo_between_11 : decode b_Mo_between 11 = .ok (.iload_n 3, 1) := by decide +kernel
theorem d_Mo_between_12 : decode b_Mo_between 12 = .ok (.aload_n 0, 1) := by decide +kernel
theorem d_Mo_between_13 : decode b_Mo_between 13 = .ok (.getfield 16, 3) := by decide +kernel
theorem d_Mo_between_16 : decode b_Mo_between 16 = .ok (.iconst 4, 1) := by decide +kernel
theorem d_Mo_between_17 : decode b_Mo_between 17 = .ok (.iload_n 1, 1) := by decide +kernel
theorem d_Mo_between_18 : decode b_Mo_between 18 = .ok (.imul, 1) := by decide +kernel
theorem d_Mo_between_19 : decode b_Mo_between 19 = .ok (.iload 4, 2) := by decide +kernel
theorem d_Mo_between_21 : decode b_Mo_between 21 = .ok (.iadd, 1) := by decide +kernel
theorem d_Mo_between_22 : decode b_Mo_between 22 = .ok (.iaload, 1) := by decide +kernel
theorem d_Mo_between_23 : decode b_Mo_between 23 = .ok (.aload_n 0, 1) := by decide +kernel
theorem d_Mo_between_24 : decode b_Mo_between 24 = .ok (.getfield 16, 3) := by decide +kernel
theorem d_Mo_between_27 : decode b_Mo_between 27 = .ok (.iconst 4, 1) := by decide +kernel
theorem d_Mo_between_28 : decode b_Mo_between 28 = .ok (.iload_n 2, 1) := by decide +kernel
theorem d_Mo_between_29 : decode b_Mo_between 29 = .ok (.imul, 1) := by decide +kernel
theorem d_Mo_between_30 : decode b_Mo_between 30 = .ok (.iload 4, 2) := by decide +kernel
theorem d_Mo_between_32 : decode b_Mo_between 32 = .ok (.iadd, 1) := by decide +kernel
theorem d_Mo_between_33 : decode b_Mo_between 33 = .ok (.iaload, 1) := by decide +kernel
theorem d_Mo_between_34 : decode b_Mo_between 34 = .ok (.isub, 1) := by decide +kernel
theorem d_Mo_between_35 : decode b_Mo_between 35 = .ok (.aload_n 0, 1) := by decide +kernel
theorem d_Mo_between_36 : decode b_Mo_between 36 = .ok (.getfield 16, 3) := by decide +kernel
theorem d_Mo_between_39 : decode b_Mo_between 39 = .ok (.iconst 4, 1) := by decide +kernel
theorem d_Mo_between_40 : decode b_Mo_between 40 = .ok (.iload_n 1, 1) := by decide +kernel
theorem d_Mo_between_41 : decode b_Mo_between 41 = .ok (.imul, 1) := by decide +kernel
theorem d_Mo_between_42 : decode b_Mo_between 42 = .ok (.iload 4, 2) := by decide +kernel
theorem d_Mo_between_44 : decode b_Mo_between 44 = .ok (.iadd, 1) := by decide +kernel
theorem d_Mo_between_45 : decode b_Mo_between 45 = .ok (.iaload, 1) := by decide +kernel
theorem d_Mo_between_46 : decode b_Mo_between 46 = .ok (.aload_n 0, 1) := by decide +kernel
theorem d_Mo_between_47 : decode b_Mo_between 47 = .ok (.getfield 16, 3) := by decide +kernel
theorem d_Mo_between_50 : decode b_Mo_between 50 = .ok (.iconst 4, 1) := by decide +kernel
theorem d_Mo_between_51 : decode b_Mo_between 51 = .ok (.iload_n 2, 1) := by decide +kernel
theorem d_Mo_between_52 : decode b_Mo_between 52 = .ok (.imul, 1) := by decide +kernel
theorem d_Mo_between_53 : decode b_Mo_between 53 = .ok (.iload 4, 2) := by decide +kernel
theorem d_Mo_between_55 : decode b_Mo_between 55 = .ok (.iadd, 1) := by decide +kernel
theorem d_Mo_between_56 : decode b_Mo_between 56 = .ok (.iaload, 1) := by decide +kernel
theorem d_Mo_between_57 : decode b_Mo_between 57 = .ok (.isub, 1) := by decide +kernel
theorem d_Mo_between_58 : decode b_Mo_between 58 = .ok (.imul, 1) := by decide +kernel
theorem d_Mo_between_59 : decode b_Mo_between 59 = .ok (.iadd, 1) := by decide +kernel
theorem d_Mo_between_60 : decode b_Mo_between 60 = .ok (.istore_n 3, 1) := by decide +kernel
theorem d_Mo_between_61 : decode b_Mo_between 61 = .ok (.iinc 4 1, 3) := by decide +kernel
theorem d_Mo_between_64 : decode b_Mo_between 64 = .ok (.goto (-59), 3) := by decide +kernel
theorem d_Mo_between_67 : decode b_Mo_between 67 = .ok (.iload_n 3, 1) := by decide +kernel
theorem d_Mo_between_68 : decode b_Mo_between 68 = .ok (.ireturn, 1) := by decide +kernel
theorem d_Mo_pick_0 : decode b_Mo_pick 0 = .ok (.aload_n 0, 1) := by decide +kernel
theorem d_Mo_pick_1 : decode b_Mo_pick 1 = .ok (.getfield 60, 3) := by decide +kernel
theorem d_Mo_pick_4 : decode b_Mo_pick 4 = .ok (.aload_n 0, 1) := by decide +kernel
theorem d_Mo_pick_5 : decode b_Mo_pick 5 = .ok (.getfield 103, 3) := by decide +kernel
theorem d_Mo_pick_8 : decode b_Mo_pick 8 = .ok (.iload_n 1, 1) := by decide +kernel
theorem d_Mo_pick_9 : decode b_Mo_pick 9 = .ok (.iastore, 1) := by decide +kernel
theorem d_Mo_pick_10 : decode b_Mo_pick 10 = .ok (.aload_n 0, 1) := by decide +kernel
theorem d_Mo_pick_11 : decode b_Mo_pick 11 = .ok (.dup, 1) := by decide +kernel
theorem d_Mo_pick_12 : decode b_Mo_pick 12 = .ok (.getfield 103, 3) := by decide +kernel
theorem d_Mo_pick_15 : decode b_Mo_pick 15 = .ok (.iconst 1, 1) := by decide +kernel
theorem d_Mo_pick_16 : decode b_Mo_pick 16 = .ok (.iadd, 1) := by decide +kernel
theorem d_Mo_pick_17 : decode b_Mo_pick 17 = .ok (.putfield 103, 3) := by decide +kernel
theorem d_Mo_pick_20 : decode b_Mo_pick 20 = .ok (.aload_n 0, 1) := by decide +kernel
theorem d_Mo_pick_21 : decode b_Mo_pick 21 = .ok (.getfield 54, 3) := by decide +kernel
theorem d_Mo_pick_24 : decode b_Mo_pick 24 = .ok (.iload_n 1, 1) := by decide +kernel
theorem d_Mo_pick_25 : decode b_Mo_pick 25 = .ok (.iconst 1, 1) := by decide +kernel
theorem d_Mo_pick_26 : decode b_Mo_pick 26 = .ok (.bastore, 1) := by decide +kernel
theorem d_Mo_pick_27 : decode b_Mo_pick 27 = .ok (.return_, 1) := by decide +kernel
theorem d_Mo_take_0 : decode b_Mo_take 0 = .ok (.iconst 0, 1) := by decide +kernel
theorem d_Mo_take_1 : decode b_Mo_take 1 = .ok (.istore_n 2, 1) := by decide +kernel
theorem d_Mo_take_2 : decode b_Mo_take 2 = .ok (.iload_n 2, 1) := by decide +kernel
theorem d_Mo_take_3 : decode b_Mo_take 3 = .ok (.aload_n 0, 1) := by decide +kernel
theorem d_Mo_take_4 : decode b_Mo_take 4 = .ok (.getfield 103, 3) := by decide +kernel
theorem d_Mo_take_7 : decode b_Mo_take 7 = .ok (.if_icmp .ge 26, 3) := by decide +kernel
theorem d_Mo_take_10 : decode b_Mo_take 10 = .ok (.aload_n 0, 1) := by decide +kernel
theorem d_Mo_take_11 : decode b_Mo_take 11 = .ok (.getfield 29, 3) := by decide +kernel
theorem d_Mo_take_14 : decode b_Mo_take 14 = .ok (.bipush 7, 2) := by decide +kernel
theorem d_Mo_take_16 : decode b_Mo_take 16 = .ok (.iload_n 1, 1) := by decide +kernel
theorem d_Mo_take_17 : decode b_Mo_take 17 = .ok (.imul, 1) := by decide +kernel
theorem d_Mo_take_18 : decode b_Mo_take 18 = .ok (.iload_n 2, 1) := by decide +kernel
theorem d_Mo_take_19 : decode b_Mo_take 19 = .ok (.iadd, 1) := by decide +kernel
theorem d_Mo_take_20 : decode b_Mo_take 20 = .ok (.aload_n 0, 1) := by decide +kernel
theorem d_Mo_take_21 : decode b_Mo_take 21 = .ok (.getfield 60, 3) := by decide +kernel
theorem d_Mo_take_24 : decode b_Mo_take 24 = .ok (.iload_n 2, 1) := by decide +kernel
theorem d_Mo_take_25 : decode b_Mo_take 25 = .ok (.iaload, 1) := by decide +kernel
theorem d_Mo_take_26 : decode b_Mo_take 26 = .ok (.iastore, 1) := by decide +kernel
theorem d_Mo_take_27 : decode b_Mo_take 27 = .ok (.iinc 2 1, 3) := by decide +kernel
theorem d_Mo_take_30 : decode b_Mo_take 30 = .ok (.goto (-28), 3) := by decide +kernel
theorem d_Mo_take_33 : decode b_Mo_take 33 = .ok (.aload_n 0, 1) := by decide +kernel
theorem d_Mo_take_34 : decode b_Mo_take 34 = .ok (.getfield 32, 3) := by decide +kernel
theorem d_Mo_take_37 : decode b_Mo_take 37 = .ok (.iload_n 1, 1) := by decide +kernel
theorem d_Mo_take_38 : decode b_Mo_take 38 = .ok (.aload_n 0, 1) := by decide +kernel
theorem d_Mo_take_39 : decode b_Mo_take 39 = .ok (.getfield 103, 3) := by decide +kernel
theorem d_Mo_take_42 : decode b_Mo_take 42 = .ok (.iastore, 1) := by decide +kernel
theorem d_Mo_take_43 : decode b_Mo_take 43 = .ok (.return_, 1) := by decide +kernel
theorem d_Mo_remove_0 : decode b_Mo_remove 0 = .ok (.iload_n 1, 1) := by decide +kernel
theorem d_Mo_remove_1 : decode b_Mo_remove 1 = .ok (.iconst 0, 1) := by decide +kernel
theorem d_Mo_remove_2 : decode b_Mo_remove 2 = .ok (.bipush 29, 2) := by decide +kernel
theorem d_Mo_remove_4 : decode b_Mo_remove 4 = .ok (.invokestatic 136, 3) := by decide +kernel
theorem d_Mo_remove_7 : decode b_Mo_remove 7 = .ok (.ifCond .eq 12, 3) := by decide +kernel
theorem d_Mo_remove_10 : decode b_Mo_remove 10 = .ok (.aload_n 0, 1) := by decide +kernel
theorem d_Mo_remove_11 : decode b_Mo_remove 11 = .ok (.getfield 13, 3) := by decide +kernel
theorem d_Mo_remove_14 : decode b_Mo_remove 14 = .ok (.iload_n 1, 1) := by decide +kernel
theorem d_Mo_remove_15 : decode b_Mo_remove 15 = .ok (.baload, 1) := by decide +kernel
theorem d_Mo_remove_16 : decode b_Mo_remove 16 = .ok (.ifCond .ne 5, 3) := by decide +kernel
theorem d_Mo_remove_19 : decode b_Mo_remove 19 = .ok (.iconst 0, 1) := by decide +kernel
theorem d_Mo_remove_20 : decode b_Mo_remove 20 = .ok (.ireturn, 1) := by decide +kernel
theorem d_Mo_remove_21 : decode b_Mo_remove 21 = .ok (.aload_n 0, 1) := by decide +kernel
theorem d_Mo_remove_22 : decode b_Mo_remove 22 = .ok (.getfield 13, 3) := by decide +kernel
theorem d_Mo_remove_25 : decode b_Mo_remove 25 = .ok (.iload_n 1, 1) := by decide +kernel
theorem d_Mo_remove_26 : decode b_Mo_remove 26 = .ok (.iconst 0, 1) := by decide +kernel
theorem d_Mo_remove_27 : decode b_Mo_remove 27 = .ok (.bastore, 1) := by decide +kernel
theorem d_Mo_remove_28 : decode b_Mo_remove 28 = .ok (.iconst 1, 1) := by decide +kernel
theorem d_Mo_remove_29 : decode b_Mo_remove 29 = .ok (.ireturn, 1) := by decide +kernel
theorem d_Mo_renew_0 : decode b_Mo_renew 0 = .ok (.aload_n 0, 1) := by decide +kernel
theorem d_Mo_renew_1 : decode b_Mo_renew 1 = .ok (.getfield 7, 3) := by decide +kernel
theorem d_Mo_renew_4 : decode b_Mo_renew 4 = .ok (.invokestatic 86, 3) := by decide +kernel
theorem d_Mo_renew_7 : decode b_Mo_renew 7 = .ok (.aload_n 0, 1) := by decide +kernel
theorem d_Mo_renew_8 : decode b_Mo_renew 8 = .ok (.getfield 13, 3) := by decide +kernel
theorem d_Mo_renew_11 : decode b_Mo_renew 11 = .ok (.invokestatic 86, 3) := by decide +kernel
theorem d_Mo_renew_14 : decode b_Mo_renew 14 = .ok (.isub, 1) := by decide +kernel
theorem d_Mo_renew_15 : decode b_Mo_renew 15 = .ok (.istore_n 1, 1) := by decide +kernel
theorem d_Mo_renew_16 : decode b_Mo_renew 16 = .ok (.aload_n 0, 1) := by decide +kernel
theorem d_Mo_renew_17 : decode b_Mo_renew 17 = .ok (.iconst (-1), 1) := by decide +kernel
theorem d_Mo_renew_18 : decode b_Mo_renew 18 = .ok (.putfield 35, 3) := by decide +kernel
theorem d_Mo_renew_21 : decode b_Mo_renew 21 = .ok (.aload_n 0, 1) := by decide +kernel
theorem d_Mo_renew_22 : decode b_Mo_renew 22 = .ok (.iconst 0, 1) := by decide +kernel
theorem d_Mo_renew_23 : decode b_Mo_renew 23 = .ok (.putfield 114, 3) := by decide +kernel
theorem d_Mo_renew_26 : decode b_Mo_renew 26 = .ok (.iconst 0, 1) := by decide +kernel
theorem d_Mo_renew_27 : decode b_Mo_renew 27 = .ok (.istore_n 2, 1) := by decide +kernel
theorem d_Mo_renew_28 : decode b_Mo_renew 28 = .ok (.iload_n 2, 1) := by decide +kernel
theorem d_Mo_renew_29 : decode b_Mo_renew 29 = .ok (.bipush 30, 2) := by decide +kernel
theorem d_Mo_renew_31 : decode b_Mo_renew 31 = .ok (.if_icmp .ge 16, 3) := by decide +kernel
theorem d_Mo_renew_34 : decode b_Mo_renew 34 = .ok (.aload_n 0, 1) := by decide +kernel
theorem d_Mo_renew_35 : decode b_Mo_renew 35 = .ok (.getfield 7, 3) := by decide +kernel
theorem d_Mo_renew_38 : decode b_Mo_renew 38 = .ok (.iload_n 2, 1) := by decide +kernel
theorem d_Mo_renew_39 : decode b_Mo_renew 39 = .ok (.iconst 0, 1) := by decide +kernel
theorem d_Mo_renew_40 : decode b_Mo_renew 40 = .ok (.bastore, 1) := by decide +kernel
theorem d_Mo_renew_41 : decode b_Mo_renew 41 = .ok (.iinc 2 1, 3) := by decide +kernel
theorem d_Mo_renew_44 : decode b_Mo_renew 44 = .ok (.goto (-16), 3) := by decide +kernel
theorem d_Mo_renew_47 : decode b_Mo_renew 47 = .ok (.iconst 0, 1) := by decide +kernel
theorem d_Mo_renew_48 : decode b_Mo_renew 48 = .ok (.istore_n 2, 1) := by decide +kernel
theorem d_Mo_renew_49 : decode b_Mo_renew 49 = .ok (.iload_n 2, 1) := by decide +kernel
theorem d_Mo_renew_50 : decode b_Mo_renew 50 = .ok (.bipush 30, 2) := by decide +kernel
theorem d_Mo_renew_52 : decode b_Mo_renew 52 = .ok (.if_icmp .ge 23, 3) := by decide +kernel
theorem d_Mo_renew_55 : decode b_Mo_renew 55 = .ok (.aload_n 0, 1) := by decide +kernel
theorem d_Mo_renew_56 : decode b_Mo_renew 56 = .ok (.getfield 13, 3) := by decide +kernel
theorem d_Mo_renew_59 : decode b_Mo_renew 59 = .ok (.iload_n 2, 1) := by decide +kernel
theorem d_Mo_renew_60 : decode b_Mo_renew 60 = .ok (.baload, 1) := by decide +kernel
theorem d_Mo_renew_61 : decode b_Mo_renew 61 = .ok (.ifCond .eq 8, 3) := by decide +kernel
theorem d_Mo_renew_64 : decode b_Mo_renew 64 = .ok (.aload_n 0, 1) := by decide +kernel
theorem d_Mo_renew_65 : decode b_Mo_renew 65 = .ok (.iload_n 2, 1) := by decide +kernel
theorem d_Mo_renew_66 : decode b_Mo_renew 66 = .ok (.invokevirtual 141, 3) := by decide +kernel
theorem d_Mo_renew_69 : decode b_Mo_renew 69 = .ok (.iinc 2 1, 3) := by decide +kernel
theorem d_Mo_renew_72 : decode b_Mo_renew 72 = .ok (.goto (-23), 3) := by decide +kernel
theorem d_Mo_renew_75 : decode b_Mo_renew 75 = .ok (.iload_n 1, 1) := by decide +kernel
theorem d_Mo_renew_76 : decode b_Mo_renew 76 = .ok (.ireturn, 1) := by decide +kernel
theorem d_Mo_ask_0 : decode b_Mo_ask 0 = .ok (.iload_n 1, 1) := by decide +kernel
theorem d_Mo_ask_1 : decode b_Mo_ask 1 = .ok (.iconst 0, 1) := by decide +kernel
theorem d_Mo_ask_2 : decode b_Mo_ask 2 = .ok (.bipush 99, 2) := by decide +kernel
theorem d_Mo_ask_4 : decode b_Mo_ask 4 = .ok (.invokestatic 136, 3) := by decide +kernel
theorem d_Mo_ask_7 : decode b_Mo_ask 7 = .ok (.ifCond .eq 34, 3) := by decide +kernel
theorem d_Mo_ask_10 : decode b_Mo_ask 10 = .ok (.iload_n 2, 1) := by decide +kernel
theorem d_Mo_ask_11 : decode b_Mo_ask 11 = .ok (.iconst 0, 1) := by decide +kernel
theorem d_Mo_ask_12 : decode b_Mo_ask 12 = .ok (.bipush 99, 2) := by decide +kernel
theorem d_Mo_ask_14 : decode b_Mo_ask 14 = .ok (.invokestatic 136, 3) := by decide +kernel
theorem d_Mo_ask_17 : decode b_Mo_ask 17 = .ok (.ifCond .eq 24, 3) := by decide +kernel
theorem d_Mo_ask_20 : decode b_Mo_ask 20 = .ok (.iload_n 3, 1) := by decide +kernel
theorem d_Mo_ask_21 : decode b_Mo_ask 21 = .ok (.iconst 0, 1) := by decide +kernel
theorem d_Mo_ask_22 : decode b_Mo_ask 22 = .ok (.bipush 99, 2) := by decide +kernel
theorem d_Mo_ask_24 : decode b_Mo_ask 24 = .ok (.invokestatic 136, 3) := by decide +kernel
theorem d_Mo_ask_27 : decode b_Mo_ask 27 = .ok (.ifCond .eq 14, 3) := by decide +kernel
theorem d_Mo_ask_30 : decode b_Mo_ask 30 = .ok (.iload 4, 2) := by decide +kernel
theorem d_Mo_ask_32 : decode b_Mo_ask 32 = .ok (.iconst 0, 1) := by decide +kernel
theorem d_Mo_ask_33 : decode b_Mo_ask 33 = .ok (.bipush 99, 2) := by decide +kernel
theorem d_Mo_ask_35 : decode b_Mo_ask 35 = .ok (.invokestatic 136, 3) := by decide +kernel
theorem d_Mo_ask_38 : decode b_Mo_ask 38 = .ok (.ifCond .ne 5, 3) := by decide +kernel
theorem d_Mo_ask_41 : decode b_Mo_ask 41 = .ok (.iconst 0, 1) := by decide +kernel
theorem d_Mo_ask_42 : decode b_Mo_ask 42 = .ok (.ireturn, 1) := by decide +kernel
theorem d_Mo_ask_43 : decode b_Mo_ask 43 = .ok (.aload_n 0, 1) := by decide +kernel
theorem d_Mo_ask_44 : decode b_Mo_ask 44 = .ok (.getfield 42, 3) := by decide +kernel
theorem d_Mo_ask_47 : decode b_Mo_ask 47 = .ok (.iconst 0, 1) := by decide +kernel
theorem d_Mo_ask_48 : decode b_Mo_ask 48 = .ok (.iload_n 1, 1) := by decide +kernel
theorem d_Mo_ask_49 : decode b_Mo_ask 49 = .ok (.iastore, 1) := by decide +kernel
theorem d_Mo_ask_50 : decode b_Mo_ask 50 = .ok (.aload_n 0, 1) := by decide +kernel
theorem d_Mo_ask_51 : decode b_Mo_ask 51 = .ok (.getfield 42, 3) := by decide +kernel
theorem d_Mo_ask_54 : decode b_Mo_ask 54 = .ok (.iconst 1, 1) := by decide +kernel
theorem d_Mo_ask_55 : decode b_Mo_ask 55 = .ok (.iload_n 2, 1) := by decide +kernel
theorem d_Mo_ask_56 : decode b_Mo_ask 56 = .ok (.iastore, 1) := by decide +kernel
theorem d_Mo_ask_57 : decode b_Mo_ask 57 = .ok (.aload_n 0, 1) := by decide +kernel
theorem d_Mo_ask_58 : decode b_Mo_ask 58 = .ok (.getfield 42, 3) := by decide +kernel
theorem d_Mo_ask_61 : decode b_Mo_ask 61 = .ok (.iconst 2, 1) := by decide +kernel
theorem d_Mo_ask_62 : decode b_Mo_ask 62 = .ok (.iload_n 3, 1) := by decide +kernel
theorem d_Mo_ask_63 : decode b_Mo_ask 63 = .ok (.iastore, 1) := by decide +kernel
theorem d_Mo_ask_64 : decode b_Mo_ask 64 = .ok (.aload_n 0, 1) := by decide +kernel
theorem d_Mo_ask_65 : decode b_Mo_ask 65 = .ok (.getfield 42, 3) := by decide +kernel
theorem d_Mo_ask_68 : decode b_Mo_ask 68 = .ok (.iconst 3, 1) := by decide +kernel
theorem d_Mo_ask_69 : decode b_Mo_ask 69 = .ok (.iload 4, 2) := by decide +kernel
theorem d_Mo_ask_71 : decode b_Mo_ask 71 = .ok (.iastore, 1) := by decide +kernel
theorem d_Mo_ask_72 : decode b_Mo_ask 72 = .ok (.iconst 1, 1) := by decide +kernel
theorem d_Mo_ask_73 : decode b_Mo_ask 73 = .ok (.ireturn, 1) := by decide +kernel
theorem d_Mo_near_0 : decode b_Mo_near 0 = .ok (.iload_n 1, 1) := by decide +kernel
theorem d_Mo_near_1 : decode b_Mo_near 1 = .ok (.iconst 1, 1) := by decide +kernel
theorem d_Mo_near_2 : decode b_Mo_near 2 = .ok (.bipush 10, 2) := by decide +kernel
theorem d_Mo_near_4 : decode b_Mo_near 4 = .ok (.invokestatic 136, 3) := by decide +kernel
theorem d_Mo_near_7 : decode b_Mo_near 7 = .ok (.ifCond .eq 13, 3) := by decide +kernel
theorem d_Mo_near_10 : decode b_Mo_near 10 = .ok (.iload_n 2, 1) := by decide +kernel
theorem d_Mo_near_11 : decode b_Mo_near 11 = .ok (.iconst 1, 1) := by decide +kernel
theorem d_Mo_near_12 : decode b_Mo_near 12 = .ok (.bipush 10, 2) := by decide +kernel
theorem d_Mo_near_14 : decode b_Mo_near 14 = .ok (.invokestatic 136, 3) := by decide +kernel
theorem d_Mo_near_17 : decode b_Mo_near 17 = .ok (.ifCond .ne 5, 3) := by decide +kernel
theorem d_Mo_near_20 : decode b_Mo_near 20 = .ok (.iconst (-1), 1) := by decide +kernel
theorem d_Mo_near_21 : decode b_Mo_near 21 = .ok (.ireturn, 1) := by decide +kernel
theorem d_Mo_near_22 : decode b_Mo_near 22 = .ok (.aload_n 0, 1) := by decide +kernel
theorem d_Mo_near_23 : decode b_Mo_near 23 = .ok (.iload_n 2, 1) := by decide +kernel
theorem d_Mo_near_24 : decode b_Mo_near 24 = .ok (.iload_n 1, 1) := by decide +kernel
theorem d_Mo_near_25 : decode b_Mo_near 25 = .ok (.if_icmp .ge 7, 3) := by decide +kernel
theorem d_Mo_near_28 : decode b_Mo_near 28 = .ok (.iload_n 1, 1) := by decide +kernel
theorem d_Mo_near_29 : decode b_Mo_near 29 = .ok (.goto 4, 3) := by decide +kernel
theorem d_Mo_near_32 : decode b_Mo_near 32 = .ok (.iload_n 2, 1) := by decide +kernel
theorem d_Mo_near_33 : decode b_Mo_near 33 = .ok (.invokevirtual 150, 3) := by decide +kernel
theorem d_Mo_near_36 : decode b_Mo_near 36 = .ok (.aload_n 0, 1) := by decide +kernel
theorem d_Mo_near_37 : decode b_Mo_near 37 = .ok (.aload_n 0, 1) := by decide +kernel
theorem d_Mo_near_38 : decode b_Mo_near 38 = .ok (.getfield 83, 3) := by decide +kernel
theorem d_Mo_near_41 : decode b_Mo_near 41 = .ok (.iload_n 1, 1) := by decide +kernel
theorem d_Mo_near_42 : decode b_Mo_near 42 = .ok (.if_icmp .ge 10, 3) := by decide +kernel
theorem d_Mo_near_45 : decode b_Mo_near 45 = .ok (.aload_n 0, 1) := by decide +kernel
theorem d_Mo_near_46 : decode b_Mo_near 46 = .ok (.getfield 83, 3) := by decide +kernel
theorem d_Mo_near_49 : decode b_Mo_near 49 = .ok (.goto 4, 3) := by decide +kernel
theorem d_Mo_near_52 : decode b_Mo_near 52 = .ok (.iload_n 1, 1) := by decide +kernel
theorem d_Mo_near_53 : decode b_Mo_near 53 = .ok (.putfield 153, 3) := by decide +kernel
theorem d_Mo_near_56 : decode b_Mo_near 56 = .ok (.iconst 0, 1) := by decide +kernel
theorem d_Mo_near_57 : decode b_Mo_near 57 = .ok (.istore_n 3, 1) := by decide +kernel
theorem d_Mo_near_58 : decode b_Mo_near 58 = .ok (.iload_n 3, 1) := by decide +kernel
theorem d_Mo_near_59 : decode b_Mo_near 59 = .ok (.aload_n 0, 1) := by decide +kernel
theorem d_Mo_near_60 : decode b_Mo_near 60 = .ok (.getfield 153, 3) := by decide +kernel
theorem d_Mo_near_63 : decode b_Mo_near 63 = .ok (.if_icmp .ge 37, 3) := by decide +kernel
theorem d_Mo_near_66 : decode b_Mo_near 66 = .ok (.aload_n 0, 1) := by decide +kernel
theorem d_Mo_near_67 : decode b_Mo_near 67 = .ok (.getfield 66, 3) := by decide +kernel
theorem d_Mo_near_70 : decode b_Mo_near 70 = .ok (.iload_n 3, 1) := by decide +kernel
theorem d_Mo_near_71 : decode b_Mo_near 71 = .ok (.aload_n 0, 1) := by decide +kernel
theorem d_Mo_near_72 : decode b_Mo_near 72 = .ok (.getfield 57, 3) := by decide +kernel
theorem d_Mo_near_75 : decode b_Mo_near 75 = .ok (.iload_n 3, 1) := by decide +kernel
theorem d_Mo_near_76 : decode b_Mo_near 76 = .ok (.iaload, 1) := by decide +kernel
theorem d_Mo_near_77 : decode b_Mo_near 77 = .ok (.iastore, 1) := by decide +kernel
theorem d_Mo_near_78 : decode b_Mo_near 78 = .ok (.aload_n 0, 1) := by decide +kernel
theorem d_Mo_near_79 : decode b_Mo_near 79 = .ok (.getfield 69, 3) := by decide +kernel
theorem d_Mo_near_82 : decode b_Mo_near 82 = .ok (.iload_n 3, 1) := by decide +kernel
theorem d_Mo_near_83 : decode b_Mo_near 83 = .ok (.aload_n 0, 1) := by decide +kernel
theorem d_Mo_near_84 : decode b_Mo_near 84 = .ok (.aload_n 0, 1) := by decide +kernel
theorem d_Mo_near_85 : decode b_Mo_near 85 = .ok (.getfield 57, 3) := by decide +kernel
theorem d_Mo_near_88 : decode b_Mo_near 88 = .ok (.iload_n 3, 1) := by decide +kernel
theorem d_Mo_near_89 : decode b_Mo_near 89 = .ok (.iaload, 1) := by decide +kernel
theorem d_Mo_near_90 : decode b_Mo_near 90 = .ok (.invokevirtual 75, 3) := by decide +kernel
theorem d_Mo_near_93 : decode b_Mo_near 93 = .ok (.iastore, 1) := by decide +kernel
theorem d_Mo_near_94 : decode b_Mo_near 94 = .ok (.iinc 3 1, 3) := by decide +kernel
theorem d_Mo_near_97 : decode b_Mo_near 97 = .ok (.goto (-39), 3) := by decide +kernel
theorem d_Mo_near_100 : decode b_Mo_near 100 = .ok (.aload_n 0, 1) := by decide +kernel
theorem d_Mo_near_101 : decode b_Mo_near 101 = .ok (.getfield 153, 3) := by decide +kernel
theorem d_Mo_near_104 : decode b_Mo_near 104 = .ok (.ireturn, 1) := by decide +kernel
theorem d_Mo_search_0 : decode b_Mo_search 0 = .ok (.aload_n 0, 1) := by decide +kernel
theorem d_Mo_search_1 : decode b_Mo_search 1 = .ok (.invokevirtual 144, 3) := by decide +kernel
theorem d_Mo_search_4 : decode b_Mo_search 4 = .ok (.aload_n 0, 1) := by decide +kernel
theorem d_Mo_search_5 : decode b_Mo_search 5 = .ok (.iconst 0, 1) := by decide +kernel
theorem d_Mo_search_6 : decode b_Mo_search 6 = .ok (.putfield 83, 3) := by decide +kernel
theorem d_Mo_search_9 : decode b_Mo_search 9 = .ok (.aload_n 0, 1) := by decide +kernel
theorem d_Mo_search_10 : decode b_Mo_search 10 = .ok (.getfield 35, 3) := by decide +kernel
theorem d_Mo_search_13 : decode b_Mo_search 13 = .ok (.ifCond .ge 4, 3) := by decide +kernel
theorem d_Mo_search_16 : decode b_Mo_search 16 = .ok (.return_, 1) := by decide +kernel
theorem d_Mo_search_17 : decode b_Mo_search 17 = .ok (.aload_n 0, 1) := by decide +kernel
theorem d_Mo_search_18 : decode b_Mo_search 18 = .ok (.getfield 57, 3) := by decide +kernel
theorem d_Mo_search_21 : decode b_Mo_search 21 = .ok (.iconst 0, 1) := by decide +kernel
theorem d_Mo_search_22 : decode b_Mo_search 22 = .ok (.aload_n 0, 1) := by decide +kernel
theorem d_Mo_search_23 : decode b_Mo_search 23 = .ok (.getfield 35, 3) := by decide +kernel
theorem d_Mo_search_26 : decode b_Mo_search 26 = .ok (.iastore, 1) := by decide +kernel
theorem d_Mo_search_27 : decode b_Mo_search 27 = .ok (.aload_n 0, 1) := by decide +kernel
theorem d_Mo_search_28 : decode b_Mo_search 28 = .ok (.iconst 1, 1) := by decide +kernel
theorem d_Mo_search_29 : decode b_Mo_search 29 = .ok (.putfield 83, 3) := by decide +kernel
theorem d_Mo_search_32 : decode b_Mo_search 32 = .ok (.aload_n 0, 1) := by decide +kernel
theorem d_Mo_search_33 : decode b_Mo_search 33 = .ok (.getfield 23, 3) := by decide +kernel
theorem d_Mo_search_36 : decode b_Mo_search 36 = .ok (.aload_n 0, 1) := by decide +kernel
theorem d_Mo_search_37 : decode b_Mo_search 37 = .ok (.getfield 35, 3) := by decide +kernel
theorem d_Mo_search_40 : decode b_Mo_search 40 = .ok (.iaload, 1) := by decide +kernel
theorem d_Mo_search_41 : decode b_Mo_search 41 = .ok (.istore_n 2, 1) := by decide +kernel
theorem d_Mo_search_42 : decode b_Mo_search 42 = .ok (.iload_n 2, 1) := by decide +kernel
theorem d_Mo_search_43 : decode b_Mo_search 43 = .ok (.ifCond .le 25, 3) := by decide +kernel
theorem d_Mo_search_46 : decode b_Mo_search 46 = .ok (.aload_n 0, 1) := by decide +kernel
theorem d_Mo_search_47 : decode b_Mo_search 47 = .ok (.dup, 1) := by decide +kernel
theorem d_Mo_search_48 : decode b_Mo_search 48 = .ok (.getfield 147, 3) := by decide +kernel
theorem d_Mo_search_51 : decode b_Mo_search 51 = .ok (.aload_n 0, 1) := by decide +kernel
theorem d_Mo_search_52 : decode b_Mo_search 52 = .ok (.iload_n 2, 1) := by decide +kernel
theorem d_Mo_search_53 : decode b_Mo_search 53 = .ok (.iconst 1, 1) := by decide +kernel
theorem d_Mo_search_54 : decode b_Mo_search 54 = .ok (.invokevirtual 124, 3) := by decide +kernel
theorem d_Mo_search_57 : decode b_Mo_search 57 = .ok (.i2l, 1) := by decide +kernel
theorem d_Mo_search_58 : decode b_Mo_search 58 = .ok (.ladd, 1) := by decide +kernel
theorem d_Mo_search_59 : decode b_Mo_search 59 = .ok (.putfield 147, 3) := by decide +kernel
theorem d_Mo_search_62 : decode b_Mo_search 62 = .ok (.iinc 2 (-1), 3) := by decide +kernel
theorem d_Mo_search_65 : decode b_Mo_search 65 = .ok (.goto (-23), 3) := by decide +kernel
theorem d_Mo_search_68 : decode b_Mo_search 68 = .ok (.aload_n 0, 1) := by decide +kernel
theorem d_Mo_search_69 : decode b_Mo_search 69 = .ok (.dup, 1) := by decide +kernel
theorem d_Mo_search_70 : decode b_Mo_search 70 = .ok (.getfield 147, 3) := by decide +kernel
theorem d_Mo_search_73 : decode b_Mo_search 73 = .ok (.aload_n 0, 1) := by decide +kernel
theorem d_Mo_search_74 : decode b_Mo_search 74 = .ok (.iconst 0, 1) := by decide +kernel
theorem d_Mo_search_75 : decode b_Mo_search 75 = .ok (.iload_n 1, 1) := by decide +kernel
theorem d_Mo_search_76 : decode b_Mo_search 76 = .ok (.invokevirtual 124, 3) := by decide +kernel
theorem d_Mo_search_79 : decode b_Mo_search 79 = .ok (.i2l, 1) := by decide +kernel
theorem d_Mo_search_80 : decode b_Mo_search 80 = .ok (.ladd, 1) := by decide +kernel
theorem d_Mo_search_81 : decode b_Mo_search 81 = .ok (.putfield 147, 3) := by decide +kernel
theorem d_Mo_search_84 : decode b_Mo_search 84 = .ok (.aload_n 0, 1) := by decide +kernel
theorem d_Mo_search_85 : decode b_Mo_search 85 = .ok (.getfield 83, 3) := by decide +kernel
theorem d_Mo_search_88 : decode b_Mo_search 88 = .ok (.istore_n 2, 1) := by decide +kernel
theorem d_Mo_search_89 : decode b_Mo_search 89 = .ok (.aload_n 0, 1) := by decide +kernel
theorem d_Mo_search_90 : decode b_Mo_search 90 = .ok (.iconst 0, 1) := by decide +kernel
theorem d_Mo_search_91 : decode b_Mo_search 91 = .ok (.putfield 83, 3) := by decide +kernel
theorem d_Mo_search_94 : decode b_Mo_search 94 = .ok (.iconst 0, 1) := by decide +kernel
theorem d_Mo_search_95 : decode b_Mo_search 95 = .ok (.istore_n 3, 1) := by decide +kernel
theorem d_Mo_search_96 : decode b_Mo_search 96 = .ok (.iload_n 3, 1) := by decide +kernel
theorem d_Mo_search_97 : decode b_Mo_search 97 = .ok (.iload_n 2, 1) := by decide +kernel
theorem d_Mo_search_98 : decode b_Mo_search 98 = .ok (.if_icmp .ge 51, 3) := by decide +kernel
theorem d_Mo_search_101 : decode b_Mo_search 101 = .ok (.aload_n 0, 1) := by decide +kernel
theorem d_Mo_search_102 : decode b_Mo_search 102 = .ok (.getfield 13, 3) := by decide +kernel
theorem d_Mo_search_105 : decode b_Mo_search 105 = .ok (.aload_n 0, 1) := by decide +kernel
theorem d_Mo_search_106 : decode b_Mo_search 106 = .ok (.getfield 57, 3) := by decide +kernel
theorem d_Mo_search_109 : decode b_Mo_search 109 = .ok (.iload_n 3, 1) := by decide +kernel
theorem d_Mo_search_110 : decode b_Mo_search 110 = .ok (.iaload, 1) := by decide +kernel
theorem d_Mo_search_111 : decode b_Mo_search 111 = .ok (.baload, 1) := by decide +kernel
theorem d_Mo_search_112 : decode b_Mo_search 112 = .ok (.ifCond .ne 6, 3) := by decide +kernel
theorem d_Mo_search_115 : decode b_Mo_search 115 = .ok (.goto 28, 3) := by decide +kernel
theorem d_Mo_search_118 : decode b_Mo_search 118 = .ok (.aload_n 0, 1) := by decide +kernel
theorem d_Mo_search_119 : decode b_Mo_search 119 = .ok (.getfield 57, 3) := by decide +kernel
theorem d_Mo_search_122 : decode b_Mo_search 122 = .ok (.aload_n 0, 1) := by decide +kernel
theorem d_Mo_search_123 : decode b_Mo_search 123 = .ok (.getfield 83, 3) := by decide +kernel
theorem d_Mo_search_126 : decode b_Mo_search 126 = .ok (.aload_n 0, 1) := by decide +kernel
theorem d_Mo_search_127 : decode b_Mo_search 127 = .ok (.getfield 57, 3) := by decide +kernel
theorem d_Mo_search_130 : decode b_Mo_search 130 = .ok (.iload_n 3, 1) := by decide +kernel
theorem d_Mo_search_131 : decode b_Mo_search 131 = .ok (.iaload, 1) := by decide +kernel
theorem d_Mo_search_132 : decode b_Mo_search 132 = .ok (.iastore, 1) := by decide +kernel
theorem d_Mo_search_133 : decode b_Mo_search 133 = .ok (.aload_n 0, 1) := by decide +kernel
theorem d_Mo_search_134 : decode b_Mo_search 134 = .ok (.dup, 1) := by decide +kernel
theorem d_Mo_search_135 : decode b_Mo_search 135 = .ok (.getfield 83, 3) := by decide +kernel
theorem d_Mo_search_138 : decode b_Mo_search 138 = .ok (.iconst 1, 1) := by decide +kernel
theorem d_Mo_search_139 : decode b_Mo_search 139 = .ok (.iadd, 1) := by decide +kernel
theorem d_Mo_search_140 : decode b_Mo_search 140 = .ok (.putfield 83, 3) := by decide +kernel
theorem d_Mo_search_143 : decode b_Mo_search 143 = .ok (.iinc 3 1, 3) := by decide +kernel
theorem d_Mo_search_146 : decode b_Mo_search 146 = .ok (.goto (-50), 3) := by decide +kernel
theorem d_Mo_search_149 : decode b_Mo_search 149 = .ok (.return_, 1) := by decide +kernel
theorem d_Mo_aimAsked_0 : decode b_Mo_aimAsked 0 = .ok (.iconst 0, 1) := by decide +kernel
theorem d_Mo_aimAsked_1 : decode b_Mo_aimAsked 1 = .ok (.istore_n 1, 1) := by decide +kernel
theorem d_Mo_aimAsked_2 : decode b_Mo_aimAsked 2 = .ok (.iload_n 1, 1) := by decide +kernel
theorem d_Mo_aimAsked_3 : decode b_Mo_aimAsked 3 = .ok (.iconst 4, 1) := by decide +kernel
theorem d_Mo_aimAsked_4 : decode b_Mo_aimAsked 4 = .ok (.if_icmp .ge 21, 3) := by decide +kernel
theorem d_Mo_aimAsked_7 : decode b_Mo_aimAsked 7 = .ok (.aload_n 0, 1) := by decide +kernel
theorem d_Mo_aimAsked_8 : decode b_Mo_aimAsked 8 = .ok (.getfield 39, 3) := by decide +kernel
theorem d_Mo_aimAsked_11 : decode b_Mo_aimAsked 11 = .ok (.iload_n 1, 1) := by decide +kernel
theorem d_Mo_aimAsked_12 : decode b_Mo_aimAsked 12 = .ok (.aload_n 0, 1) := by decide +kernel
theorem d_Mo_aimAsked_13 : decode b_Mo_aimAsked 13 = .ok (.getfield 42, 3) := by decide +kernel
theorem d_Mo_aimAsked_16 : decode b_Mo_aimAsked 16 = .ok (.iload_n 1, 1) := by decide +kernel
theorem d_Mo_aimAsked_17 : decode b_Mo_aimAsked 17 = .ok (.iaload, 1) := by decide +kernel
theorem d_Mo_aimAsked_18 : decode b_Mo_aimAsked 18 = .ok (.iastore, 1) := by decide +kernel
theorem d_Mo_aimAsked_19 : decode b_Mo_aimAsked 19 = .ok (.iinc 1 1, 3) := by decide +kernel
theorem d_Mo_aimAsked_22 : decode b_Mo_aimAsked 22 = .ok (.goto (-20), 3) := by decide +kernel
theorem d_Mo_aimAsked_25 : decode b_Mo_aimAsked 25 = .ok (.return_, 1) := by decide +kernel
theorem d_Mo_exact_0 : decode b_Mo_exact 0 = .ok (.iload_n 1, 1) := by decide +kernel
theorem d_Mo_exact_1 : decode b_Mo_exact 1 = .ok (.iconst 1, 1) := by decide +kernel
theorem d_Mo_exact_2 : decode b_Mo_exact 2 = .ok (.bipush 10, 2) := by decide +kernel
theorem d_Mo_exact_4 : decode b_Mo_exact 4 = .ok (.invokestatic 136, 3) := by decide +kernel
theorem d_Mo_exact_7 : decode b_Mo_exact 7 = .ok (.ifCond .ne 5, 3) := by decide +kernel
theorem d_Mo_exact_10 : decode b_Mo_exact 10 = .ok (.iconst (-1), 1) := by decide +kernel
theorem d_Mo_exact_11 : decode b_Mo_exact 11 = .ok (.ireturn, 1) := by decide +kernel
theorem d_Mo_exact_12 : decode b_Mo_exact 12 = .ok (.aload_n 0, 1) := by decide +kernel
theorem d_Mo_exact_13 : decode b_Mo_exact 13 = .ok (.invokevirtual 144, 3) := by decide +kernel
theorem d_Mo_exact_16 : decode b_Mo_exact 16 = .ok (.iconst 0, 1) := by decide +kernel
theorem d_Mo_exact_17 : decode b_Mo_exact 17 = .ok (.istore_n 2, 1) := by decide +kernel
theorem d_Mo_exact_18 : decode b_Mo_exact 18 = .ok (.iload_n 2, 1) := by decide +kernel
theorem d_Mo_exact_19 : decode b_Mo_exact 19 = .ok (.bipush 30, 2) := by decide +kernel
theorem d_Mo_exact_21 : decode b_Mo_exact 21 = .ok (.if_icmp .ge 21, 3) := by decide +kernel
theorem d_Mo_exact_24 : decode b_Mo_exact 24 = .ok (.aload_n 0, 1) := by decide +kernel
theorem d_Mo_exact_25 : decode b_Mo_exact 25 = .ok (.getfield 48, 3) := by decide +kernel
theorem d_Mo_exact_28 : decode b_Mo_exact 28 = .ok (.iload_n 2, 1) := by decide +kernel
theorem d_Mo_exact_29 : decode b_Mo_exact 29 = .ok (.aload_n 0, 1) := by decide +kernel
theorem d_Mo_exact_30 : decode b_Mo_exact 30 = .ok (.getfield 13, 3) := by decide +kernel
theorem d_Mo_exact_33 : decode b_Mo_exact 33 = .ok (.iload_n 2, 1) := by decide +kernel
theorem d_Mo_exact_34 : decode b_Mo_exact 34 = .ok (.baload, 1) := by decide +kernel
theorem d_Mo_exact_35 : decode b_Mo_exact 35 = .ok (.bastore, 1) := by decide +kernel
theorem d_Mo_exact_36 : decode b_Mo_exact 36 = .ok (.iinc 2 1, 3) := by decide +kernel
theorem d_Mo_exact_39 : decode b_Mo_exact 39 = .ok (.goto (-21), 3) := by decide +kernel
theorem d_Mo_exact_42 : decode b_Mo_exact 42 = .ok (.aload_n 0, 1) := by decide +kernel
theorem d_Mo_exact_43 : decode b_Mo_exact 43 = .ok (.iconst 0, 1) := by decide +kernel
theorem d_Mo_exact_44 : decode b_Mo_exact 44 = .ok (.putfield 153, 3) := by decide +kernel
theorem d_Mo_exact_47 : decode b_Mo_exact 47 = .ok (.aload_n 0, 1) := by decide +kernel
theorem d_Mo_exact_48 : decode b_Mo_exact 48 = .ok (.aload_n 0, 1) := by decide +kernel
theorem d_Mo_exact_49 : decode b_Mo_exact 49 = .ok (.getfield 48, 3) := by decide +kernel
theorem d_Mo_exact_52 : decode b_Mo_exact 52 = .ok (.invokevirtual 93, 3) := by decide +kernel
theorem d_Mo_exact_55 : decode b_Mo_exact 55 = .ok (.istore_n 2, 1) := by decide +kernel
theorem d_Mo_exact_56 : decode b_Mo_exact 56 = .ok (.iload_n 2, 1) := by decide +kernel
theorem d_Mo_exact_57 : decode b_Mo_exact 57 = .ok (.ifCond .lt 64, 3) := by decide +kernel
theorem d_Mo_exact_60 : decode b_Mo_exact 60 = .ok (.aload_n 0, 1) := by decide +kernel
theorem d_Mo_exact_61 : decode b_Mo_exact 61 = .ok (.getfield 153, 3) := by decide +kernel
theorem d_Mo_exact_64 : decode b_Mo_exact 64 = .ok (.iload_n 1, 1) := by decide +kernel
theorem d_Mo_exact_65 : decode b_Mo_exact 65 = .ok (.if_icmp .ge 56, 3) := by decide +kernel
theorem d_Mo_exact_68 : decode b_Mo_exact 68 = .ok (.aload_n 0, 1) := by decide +kernel
theorem d_Mo_exact_69 : decode b_Mo_exact 69 = .ok (.getfield 48, 3) := by decide +kernel
theorem d_Mo_exact_72 : decode b_Mo_exact 72 = .ok (.iload_n 2, 1) := by decide +kernel
theorem d_Mo_exact_73 : decode b_Mo_exact 73 = .ok (.iconst 0, 1) := by decide +kernel
theorem d_Mo_exact_74 : decode b_Mo_exact 74 = .ok (.bastore, 1) := by decide +kernel
theorem d_Mo_exact_75 : decode b_Mo_exact 75 = .ok (.aload_n 0, 1) := by decide +kernel
theorem d_Mo_exact_76 : decode b_Mo_exact 76 = .ok (.getfield 66, 3) := by decide +kernel
theorem d_Mo_exact_79 : decode b_Mo_exact 79 = .ok (.aload_n 0, 1) := by decide +kernel
theorem d_Mo_exact_80 : decode b_Mo_exact 80 = .ok (.getfield 153, 3) := by decide +kernel
theorem d_Mo_exact_83 : decode b_Mo_exact 83 = .ok (.iload_n 2, 1) := by decide +kernel
theorem d_Mo_exact_84 : decode b_Mo_exact 84 = .ok (.iastore, 1) := by decide +kernel
theorem d_Mo_exact_85 : decode b_Mo_exact 85 = .ok (.aload_n 0, 1) := by decide +kernel
theorem d_Mo_exact_86 : decode b_Mo_exact 86 = .ok (.getfield 69, 3) := by decide +kernel
theorem d_Mo_exact_89 : decode b_Mo_exact 89 = .ok (.aload_n 0, 1) := by decide +kernel
theorem d_Mo_exact_90 : decode b_Mo_exact 90 = .ok (.getfield 153, 3) := by decide +kernel
theorem d_Mo_exact_93 : decode b_Mo_exact 93 = .ok (.aload_n 0, 1) := by decide +kernel
theorem d_Mo_exact_94 : decode b_Mo_exact 94 = .ok (.iload_n 2, 1) := by decide +kernel
theorem d_Mo_exact_95 : decode b_Mo_exact 95 = .ok (.invokevirtual 75, 3) := by decide +kernel
theorem d_Mo_exact_98 : decode b_Mo_exact 98 = .ok (.iastore, 1) := by decide +kernel
theorem d_Mo_exact_99 : decode b_Mo_exact 99 = .ok (.aload_n 0, 1) := by decide +kernel
theorem d_Mo_exact_100 : decode b_Mo_exact 100 = .ok (.dup, 1) := by decide +kernel
theorem d_Mo_exact_101 : decode b_Mo_exact 101 = .ok (.getfield 153, 3) := by decide +kernel
theorem d_Mo_exact_104 : decode b_Mo_exact 104 = .ok (.iconst 1, 1) := by decide +kernel
theorem d_Mo_exact_105 : decode b_Mo_exact 105 = .ok (.iadd, 1) := by decide +kernel
theorem d_Mo_exact_106 : decode b_Mo_exact 106 = .ok (.putfield 153, 3) := by decide +kernel
theorem d_Mo_exact_109 : decode b_Mo_exact 109 = .ok (.aload_n 0, 1) := by decide +kernel
theorem d_Mo_exact_110 : decode b_Mo_exact 110 = .ok (.aload_n 0, 1) := by decide +kernel
theorem d_Mo_exact_111 : decode b_Mo_exact 111 = .ok (.getfield 48, 3) := by decide +kernel
theorem d_Mo_exact_114 : decode b_Mo_exact 114 = .ok (.invokevirtual 93, 3) := by decide +kernel
theorem d_Mo_exact_117 : decode b_Mo_exact 117 = .ok (.istore_n 2, 1) := by decide +kernel
theorem d_Mo_exact_118 : decode b_Mo_exact 118 = .ok (.goto (-62), 3) := by decide +kernel
theorem d_Mo_exact_121 : decode b_Mo_exact 121 = .ok (.aload_n 0, 1) := by decide +kernel
theorem d_Mo_exact_122 : decode b_Mo_exact 122 = .ok (.getfield 153, 3) := by decide +kernel
theorem d_Mo_exact_125 : decode b_Mo_exact 125 = .ok (.ireturn, 1) := by decide +kernel
theorem d_Mo_match_0 : decode b_Mo_match 0 = .ok (.iload_n 1, 1) := by decide +kernel
theorem d_Mo_match_1 : decode b_Mo_match 1 = .ok (.iconst 1, 1) := by decide +kernel
theorem d_Mo_match_2 : decode b_Mo_match 2 = .ok (.bipush 10, 2) := by decide +kernel
theorem d_Mo_match_4 : decode b_Mo_match 4 = .ok (.invokestatic 136, 3) := by decide +kernel
theorem d_Mo_match_7 : decode b_Mo_match 7 = .ok (.ifCond .eq 14, 3) := by decide +kernel
theorem d_Mo_match_10 : decode b_Mo_match 10 = .ok (.iload_n 2, 1) := by decide +kernel
theorem d_Mo_match_11 : decode b_Mo_match 11 = .ok (.iconst 0, 1) := by decide +kernel
theorem d_Mo_match_12 : decode b_Mo_match 12 = .ok (.sipush 255, 3) := by decide +kernel
theorem d_Mo_match_15 : decode b_Mo_match 15 = .ok (.invokestatic 136, 3) := by decide +kernel
theorem d_Mo_match_18 : decode b_Mo_match 18 = .ok (.ifCond .ne 5, 3) := by decide +kernel
theorem d_Mo_match_21 : decode b_Mo_match 21 = .ok (.iconst (-1), 1) := by decide +kernel
theorem d_Mo_match_22 : decode b_Mo_match 22 = .ok (.ireturn, 1) := by decide +kernel
theorem d_Mo_match_23 : decode b_Mo_match 23 = .ok (.aload_n 0, 1) := by decide +kernel
theorem d_Mo_match_24 : decode b_Mo_match 24 = .ok (.iload_n 2, 1) := by decide +kernel
theorem d_Mo_match_25 : decode b_Mo_match 25 = .ok (.invokevirtual 165, 3) := by decide +kernel
theorem d_Mo_match_28 : decode b_Mo_match 28 = .ok (.aload_n 0, 1) := by decide +kernel
theorem d_Mo_match_29 : decode b_Mo_match 29 = .ok (.iload_n 1, 1) := by decide +kernel
theorem d_Mo_match_30 : decode b_Mo_match 30 = .ok (.invokevirtual 168, 3) := by decide +kernel
theorem d_Mo_match_33 : decode b_Mo_match 33 = .ok (.ireturn, 1) := by decide +kernel
theorem d_Mo_score_0 : decode b_Mo_score 0 = .ok (.iconst 0, 1) := by decide +kernel
theorem d_Mo_score_1 : decode b_Mo_score 1 = .ok (.istore_n 2, 1) := by decide +kernel
theorem d_Mo_score_2 : decode b_Mo_score 2 = .ok (.iload_n 2, 1) := by decide +kernel
theorem d_Mo_score_3 : decode b_Mo_score 3 = .ok (.bipush 30, 2) := by decide +kernel
theorem d_Mo_score_5 : decode b_Mo_score 5 = .ok (.if_icmp .ge 34, 3) := by decide +kernel
theorem d_Mo_score_8 : decode b_Mo_score 8 = .ok (.aload_n 0, 1) := by decide +kernel
theorem d_Mo_score_9 : decode b_Mo_score 9 = .ok (.getfield 72, 3) := by decide +kernel
theorem d_Mo_score_12 : decode b_Mo_score 12 = .ok (.iload_n 2, 1) := by decide +kernel
theorem d_Mo_score_13 : decode b_Mo_score 13 = .ok (.aload_n 0, 1) := by decide +kernel
theorem d_Mo_score_14 : decode b_Mo_score 14 = .ok (.getfield 13, 3) := by decide +kernel
theorem d_Mo_score_17 : decode b_Mo_score 17 = .ok (.iload_n 2, 1) := by decide +kernel
theorem d_Mo_score_18 : decode b_Mo_score 18 = .ok (.baload, 1) := by decide +kernel
theorem d_Mo_score_19 : decode b_Mo_score 19 = .ok (.ifCond .eq 12, 3) := by decide +kernel
theorem d_Mo_score_22 : decode b_Mo_score 22 = .ok (.aload_n 0, 1) := by decide +kernel
theorem d_Mo_score_23 : decode b_Mo_score 23 = .ok (.iload_n 2, 1) := by decide +kernel
theorem d_Mo_score_24 : decode b_Mo_score 24 = .ok (.iload_n 1, 1) := by decide +kernel
theorem d_Mo_score_25 : decode b_Mo_score 25 = .ok (.invokevirtual 159, 3) := by decide +kernel
theorem d_Mo_score_28 : decode b_Mo_score 28 = .ok (.goto 4, 3) := by decide +kernel
theorem d_Mo_score_31 : decode b_Mo_score 31 = .ok (.iconst 0, 1) := by decide +kernel
theorem d_Mo_score_32 : decode b_Mo_score 32 = .ok (.iastore, 1) := by decide +kernel
theorem d_Mo_score_33 : decode b_Mo_score 33 = .ok (.iinc 2 1, 3) := by decide +kernel
theorem d_Mo_score_36 : decode b_Mo_score 36 = .ok (.goto (-34), 3) := by decide +kernel
theorem d_Mo_score_39 : decode b_Mo_score 39 = .ok (.return_, 1) := by decide +kernel
theorem d_Mo_scoreOf_0 : decode b_Mo_scoreOf 0 = .ok (.iconst 0, 1) := by decide +kernel
theorem d_Mo_scoreOf_1 : decode b_Mo_scoreOf 1 = .ok (.istore_n 3, 1) := by decide +kernel
theorem d_Mo_scoreOf_2 : decode b_Mo_scoreOf 2 = .ok (.aload_n 0, 1) := by decide +kernel
theorem d_Mo_scoreOf_3 : decode b_Mo_scoreOf 3 = .ok (.getfield 13, 3) := by decide +kernel
theorem d_Mo_scoreOf_6 : decode b_Mo_scoreOf 6 = .ok (.invokestatic 86, 3) := by decide +kernel
theorem d_Mo_scoreOf_9 : decode b_Mo_scoreOf 9 = .ok (.istore 4, 2) := by decide +kernel
theorem d_Mo_scoreOf_11 : decode b_Mo_scoreOf 11 = .ok (.iconst 0, 1) := by decide +kernel
theorem d_Mo_scoreOf_12 : decode b_Mo_scoreOf 12 = .ok (.istore 5, 2) := by decide +kernel
theorem d_Mo_scoreOf_14 : decode b_Mo_scoreOf 14 = .ok (.iload 5, 2) := by decide +kernel
theorem d_Mo_scoreOf_16 : decode b_Mo_scoreOf 16 = .ok (.bipush 8, 2) := by decide +kernel
theorem d_Mo_scoreOf_18 : decode b_Mo_scoreOf 18 = .ok (.if_icmp .ge 99, 3) := by decide +kernel
theorem d_Mo_scoreOf_21 : decode b_Mo_scoreOf 21 = .ok (.aload_n 0, 1) := by decide +kernel
theorem d_Mo_scoreOf_22 : decode b_Mo_scoreOf 22 = .ok (.iload_n 1, 1) := by decide +kernel
theorem d_Mo_scoreOf_23 : decode b_Mo_scoreOf 23 = .ok (.iload 5, 2) := by decide +kernel
theorem d_Mo_scoreOf_25 : decode b_Mo_scoreOf 25 = .ok (.invokevirtual 156, 3) := by decide +kernel
theorem d_Mo_scoreOf_28 : decode b_Mo_scoreOf 28 = .ok (.istore 6, 2) := by decide +kernel
theorem d_Mo_scoreOf_30 : decode b_Mo_scoreOf 30 = .ok (.iconst 0, 1) := by decide +kernel
theorem d_Mo_scoreOf_31 : decode b_Mo_scoreOf 31 = .ok (.istore 7, 2) := by decide +kernel
theorem d_Mo_scoreOf_33 : decode b_Mo_scoreOf 33 = .ok (.iload_n 2, 1) := by decide +kernel
theorem d_Mo_scoreOf_34 : decode b_Mo_scoreOf 34 = .ok (.iload 5, 2) := by decide +kernel
theorem d_Mo_scoreOf_36 : decode b_Mo_scoreOf 36 = .ok (.ishr, 1) := by decide +kernel
theorem d_Mo_scoreOf_37 : decode b_Mo_scoreOf 37 = .ok (.iconst 1, 1) := by decide +kernel
theorem d_Mo_scoreOf_38 : decode b_Mo_scoreOf 38 = .ok (.iand, 1) := by decide +kernel
theorem d_Mo_scoreOf_39 : decode b_Mo_scoreOf 39 = .ok (.ifCond .eq 72, 3) := by decide +kernel
theorem d_Mo_scoreOf_42 : decode b_Mo_scoreOf 42 = .ok (.iload 6, 2) := by decide +kernel
theorem d_Mo_scoreOf_44 : decode b_Mo_scoreOf 44 = .ok (.ifCond .ne 6, 3) := by decide +kernel
theorem d_Mo_scoreOf_47 : decode b_Mo_scoreOf 47 = .ok (.goto 64, 3) := by decide +kernel
theorem d_Mo_scoreOf_50 : decode b_Mo_scoreOf 50 = .ok (.iconst 0, 1) := by decide +kernel
theorem d_Mo_scoreOf_51 : decode b_Mo_scoreOf 51 = .ok (.istore 8, 2) := by decide +kernel
theorem d_Mo_scoreOf_53 : decode b_Mo_scoreOf 53 = .ok (.iload 8, 2) := by decide +kernel
theorem d_Mo_scoreOf_55 : decode b_Mo_scoreOf 55 = .ok (.bipush 30, 2) := by decide +kernel
theorem d_Mo_scoreOf_57 : decode b_Mo_scoreOf 57 = .ok (.if_icmp .ge 33, 3) := by decide +kernel
theorem d_Mo_scoreOf_60 : decode b_Mo_scoreOf 60 = .ok (.aload_n 0, 1) := by decide +kernel
theorem d_Mo_scoreOf_61 : decode b_Mo_scoreOf 61 = .ok (.getfield 13, 3) := by decide +kernel
theorem d_Mo_scoreOf_64 : decode b_Mo_scoreOf 64 = .ok (.iload 8, 2) := by decide +kernel
theorem d_Mo_scoreOf_66 : decode b_Mo_scoreOf 66 = .ok (.baload, 1) := by decide +kernel
theorem d_Mo_scoreOf_67 : decode b_Mo_scoreOf 67 = .ok (.ifCond .eq 17, 3) := by decide +kernel
theorem d_Mo_scoreOf_70 : decode b_Mo_scoreOf 70 = .ok (.aload_n 0, 1) := by decide +kernel
theorem d_Mo_scoreOf_71 : decode b_Mo_scoreOf 71 = .ok (.iload 8, 2) := by decide +kernel
theorem d_Mo_scoreOf_73 : decode b_Mo_scoreOf 73 = .ok (.iload 5, 2) := by decide +kernel
theorem d_Mo_scoreOf_75 : decode b_Mo_scoreOf 75 = .ok (.invokevirtual 156, 3) := by decide +kernel
theorem d_Mo_scoreOf_78 : decode b_Mo_scoreOf 78 = .ok (.ifCond .le 6, 3) := by decide +kernel
theorem d_Mo_scoreOf_81 : decode b_Mo_scoreOf 81 = .ok (.iinc 7 1, 3) := by decide +kernel
theorem d_Mo_scoreOf_84 : decode b_Mo_scoreOf 84 = .ok (.iinc 8 1, 3) := by decide +kernel
theorem d_Mo_scoreOf_87 : decode b_Mo_scoreOf 87 = .ok (.goto (-34), 3) := by decide +kernel
theorem d_Mo_scoreOf_90 : decode b_Mo_scoreOf 90 = .ok (.iload_n 3, 1) := by decide +kernel
theorem d_Mo_scoreOf_91 : decode b_Mo_scoreOf 91 = .ok (.bipush 100, 2) := by decide +kernel
theorem d_Mo_scoreOf_93 : decode b_Mo_scoreOf 93 = .ok (.iload 6, 2) := by decide +kernel
theorem d_Mo_scoreOf_95 : decode b_Mo_scoreOf 95 = .ok (.imul, 1) := by decide +kernel
theorem d_Mo_scoreOf_96 : decode b_Mo_scoreOf 96 = .ok (.iload 6, 2) := by decide +kernel
theorem d_Mo_scoreOf_98 : decode b_Mo_scoreOf 98 = .ok (.iconst 1, 1) := by decide +kernel
theorem d_Mo_scoreOf_99 : decode b_Mo_scoreOf 99 = .ok (.iadd, 1) := by decide +kernel
theorem d_Mo_scoreOf_100 : decode b_Mo_scoreOf 100 = .ok (.idiv, 1) := by decide +kernel
theorem d_Mo_scoreOf_101 : decode b_Mo_scoreOf 101 = .ok (.iconst 1, 1) := by decide +kernel
theorem d_Mo_scoreOf_102 : decode b_Mo_scoreOf 102 = .ok (.iload 4, 2) := by decide +kernel
theorem d_Mo_scoreOf_104 : decode b_Mo_scoreOf 104 = .ok (.iload 7, 2) := by decide +kernel
theorem d_Mo_scoreOf_106 : decode b_Mo_scoreOf 106 = .ok (.idiv, 1) := by decide +kernel
theorem d_Mo_scoreOf_107 : decode b_Mo_scoreOf 107 = .ok (.iadd, 1) := by decide +kernel
theorem d_Mo_scoreOf_108 : decode b_Mo_scoreOf 108 = .ok (.imul, 1) := by decide +kernel
theorem d_Mo_scoreOf_109 : decode b_Mo_scoreOf 109 = .ok (.iadd, 1) := by decide +kernel
theorem d_Mo_scoreOf_110 : decode b_Mo_scoreOf 110 = .ok (.istore_n 3, 1) := by decide +kernel
theorem d_Mo_scoreOf_111 : decode b_Mo_scoreOf 111 = .ok (.iinc 5 1, 3) := by decide +kernel
theorem d_Mo_scoreOf_114 : decode b_Mo_scoreOf 114 = .ok (.goto (-100), 3) := by decide +kernel
theorem d_Mo_scoreOf_117 : decode b_Mo_scoreOf 117 = .ok (.iload_n 3, 1) := by decide +kernel
theorem d_Mo_scoreOf_118 : decode b_Mo_scoreOf 118 = .ok (.ireturn, 1) := by decide +kernel
theorem d_Mo_countOf_0 : decode b_Mo_countOf 0 = .ok (.aload_n 0, 1) := by decide +kernel
theorem d_Mo_countOf_1 : decode b_Mo_countOf 1 = .ok (.getfield 20, 3) := by decide +kernel
theorem d_Mo_countOf_4 : decode b_Mo_countOf 4 = .ok (.iload_n 1, 1) := by decide +kernel
theorem d_Mo_countOf_5 : decode b_Mo_countOf 5 = .ok (.iaload, 1) := by decide +kernel
theorem d_Mo_countOf_6 : decode b_Mo_countOf 6 = .ok (.iconst 3, 1) := by decide +kernel
theorem d_Mo_countOf_7 : decode b_Mo_countOf 7 = .ok (.iload_n 2, 1) := by decide +kernel
theorem d_Mo_countOf_8 : decode b_Mo_countOf 8 = .ok (.imul, 1) := by decide +kernel
theorem d_Mo_countOf_9 : decode b_Mo_countOf 9 = .ok (.ishr, 1) := by decide +kernel
theorem d_Mo_countOf_10 : decode b_Mo_countOf 10 = .ok (.bipush 7, 2) := by decide +kernel
theorem d_Mo_countOf_12 : decode b_Mo_countOf 12 = .ok (.iand, 1) := by decide +kernel
theorem d_Mo_countOf_13 : decode b_Mo_countOf 13 = .ok (.ireturn, 1) := by decide +kernel
theorem d_Mo_best_0 : decode b_Mo_best 0 = .ok (.aload_n 0, 1) := by decide +kernel
theorem d_Mo_best_1 : decode b_Mo_best 1 = .ok (.iconst 0, 1) := by decide +kernel
theorem d_Mo_best_2 : decode b_Mo_best 2 = .ok (.putfield 153, 3) := by decide +kernel
theorem d_Mo_best_5 : decode b_Mo_best 5 = .ok (.iconst 0, 1) := by decide +kernel
theorem d_Mo_best_6 : decode b_Mo_best 6 = .ok (.istore_n 2, 1) := by decide +kernel
theorem d_Mo_best_7 : decode b_Mo_best 7 = .ok (.iload_n 2, 1) := by decide +kernel
theorem d_Mo_best_8 : decode b_Mo_best 8 = .ok (.bipush 30, 2) := by decide +kernel
theorem d_Mo_best_10 : decode b_Mo_best 10 = .ok (.if_icmp .ge 61, 3) := by decide +kernel
theorem d_Mo_best_13 : decode b_Mo_best 13 = .ok (.aload_n 0, 1) := by decide +kernel
theorem d_Mo_best_14 : decode b_Mo_best 14 = .ok (.iload_n 2, 1) := by decide +kernel
theorem d_Mo_best_15 : decode b_Mo_best 15 = .ok (.invokevirtual 162, 3) := by decide +kernel
theorem d_Mo_best_18 : decode b_Mo_best 18 = .ok (.istore_n 3, 1) := by decide +kernel
theorem d_Mo_best_19 : decode b_Mo_best 19 = .ok (.aload_n 0, 1) := by decide +kernel
theorem d_Mo_best_20 : decode b_Mo_best 20 = .ok (.getfield 72, 3) := by decide +kernel
theorem d_Mo_best_23 : decode b_Mo_best 23 = .ok (.iload_n 2, 1) := by decide +kernel
theorem d_Mo_best_24 : decode b_Mo_best 24 = .ok (.iaload, 1) := by decide +kernel
theorem d_Mo_best_25 : decode b_Mo_best 25 = .ok (.ifCond .eq 40, 3) := by decide +kernel
theorem d_Mo_best_28 : decode b_Mo_best 28 = .ok (.iload_n 3, 1) := by decide +kernel
theorem d_Mo_best_29 : decode b_Mo_best 29 = .ok (.iload_n 1, 1) := by decide +kernel
theorem d_Mo_best_30 : decode b_Mo_best 30 = .ok (.if_icmp .lt 6, 3) := by decide +kernel
theorem d_Mo_best_33 : decode b_Mo_best 33 = .ok (.goto 32, 3) := by decide +kernel
theorem d_Mo_best_36 : decode b_Mo_best 36 = .ok (.aload_n 0, 1) := by decide +kernel
theorem d_Mo_best_37 : decode b_Mo_best 37 = .ok (.getfield 66, 3) := by decide +kernel
theorem d_Mo_best_40 : decode b_Mo_best 40 = .ok (.iload_n 3, 1) := by decide +kernel
theorem d_Mo_best_41 : decode b_Mo_best 41 = .ok (.iload_n 2, 1) := by decide +kernel
theorem d_Mo_best_42 : decode b_Mo_best 42 = .ok (.iastore, 1) := by decide +kernel
theorem d_Mo_best_43 : decode b_Mo_best 43 = .ok (.aload_n 0, 1) := by decide +kernel
theorem d_Mo_best_44 : decode b_Mo_best 44 = .ok (.getfield 69, 3) := by decide +kernel
theorem d_Mo_best_47 : decode b_Mo_best 47 = .ok (.iload_n 3, 1) := by decide +kernel
theorem d_Mo_best_48 : decode b_Mo_best 48 = .ok (.aload_n 0, 1) := by decide +kernel
theorem d_Mo_best_49 : decode b_Mo_best 49 = .ok (.getfield 72, 3) := by decide +kernel
theorem d_Mo_best_52 : decode b_Mo_best 52 = .ok (.iload_n 2, 1) := by decide +kernel
theorem d_Mo_best_53 : decode b_Mo_best 53 = .ok (.iaload, 1) := by decide +kernel
theorem d_Mo_best_54 : decode b_Mo_best 54 = .ok (.iastore, 1) := by decide +kernel
theorem d_Mo_best_55 : decode b_Mo_best 55 = .ok (.aload_n 0, 1) := by decide +kernel
theorem d_Mo_best_56 : decode b_Mo_best 56 = .ok (.dup, 1) := by decide +kernel
theorem d_Mo_best_57 : decode b_Mo_best 57 = .ok (.getfield 153, 3) := by decide +kernel
theorem d_Mo_best_60 : decode b_Mo_best 60 = .ok (.iconst 1, 1) := by decide +kernel
theorem d_Mo_best_61 : decode b_Mo_best 61 = .ok (.iadd, 1) := by decide +kernel
theorem d_Mo_best_62 : decode b_Mo_best 62 = .ok (.putfield 153, 3) := by decide +kernel
theorem d_Mo_best_65 : decode b_Mo_best 65 = .ok (.iinc 2 1, 3) := by decide +kernel
theorem d_Mo_best_68 : decode b_Mo_best 68 = .ok (.goto (-61), 3) := by decide +kernel
theorem d_Mo_best_71 : decode b_Mo_best 71 = .ok (.aload_n 0, 1) := by decide +kernel
theorem d_Mo_best_72 : decode b_Mo_best 72 = .ok (.getfield 153, 3) := by decide +kernel
theorem d_Mo_best_75 : decode b_Mo_best 75 = .ok (.ireturn, 1) := by decide +kernel
theorem d_Mo_placeOf_0 : decode b_Mo_placeOf 0 = .ok (.iconst 0, 1) := by decide +kernel
theorem d_Mo_placeOf_1 : decode b_Mo_placeOf 1 = .ok (.istore_n 2, 1) := by decide +kernel
theorem d_Mo_placeOf_2 : decode b_Mo_placeOf 2 = .ok (.iconst 0, 1) := by decide +kernel
theorem d_Mo_placeOf_3 : decode b_Mo_placeOf 3 = .ok (.istore_n 3, 1) := by decide +kernel
theorem d_Mo_placeOf_4 : decode b_Mo_placeOf 4 = .ok (.iload_n 3, 1) := by decide +kernel
theorem d_Mo_placeOf_5 : decode b_Mo_placeOf 5 = .ok (.bipush 30, 2) := by decide +kernel
theorem d_Mo_placeOf_7 : decode b_Mo_placeOf 7 = .ok (.if_icmp .ge 47, 3) := by decide +kernel
theorem d_Mo_placeOf_10 : decode b_Mo_placeOf 10 = .ok (.aload_n 0, 1) := by decide +kernel
theorem d_Mo_placeOf_11 : decode b_Mo_placeOf 11 = .ok (.getfield 72, 3) := by decide +kernel
theorem d_Mo_placeOf_14 : decode b_Mo_placeOf 14 = .ok (.iload_n 3, 1) := by decide +kernel
theorem d_Mo_placeOf_15 : decode b_Mo_placeOf 15 = .ok (.iaload, 1) := by decide +kernel
theorem d_Mo_placeOf_16 : decode b_Mo_placeOf 16 = .ok (.aload_n 0, 1) := by decide +kernel
theorem d_Mo_placeOf_17 : decode b_Mo_placeOf 17 = .ok (.getfield 72, 3) := by decide +kernel
theorem d_Mo_placeOf_20 : decode b_Mo_placeOf 20 = .ok (.iload_n 1, 1) := by decide +kernel
theorem d_Mo_placeOf_21 : decode b_Mo_placeOf 21 = .ok (.iaload, 1) := by decide +kernel
theorem d_Mo_placeOf_22 : decode b_Mo_placeOf 22 = .ok (.if_icmp .gt 23, 3) := by decide +kernel
theorem d_Mo_placeOf_25 : decode b_Mo_placeOf 25 = .ok (.aload_n 0, 1) := by decide +kernel
theorem d_Mo_placeOf_26 : decode b_Mo_placeOf 26 = .ok (.getfield 72, 3) := by decide +kernel
theorem d_Mo_placeOf_29 : decode b_Mo_placeOf 29 = .ok (.iload_n 3, 1) := by decide +kernel
theorem d_Mo_placeOf_30 : decode b_Mo_placeOf 30 = .ok (.iaload, 1) := by decide +kernel
theorem d_Mo_placeOf_31 : decode b_Mo_placeOf 31 = .ok (.aload_n 0, 1) := by decide +kernel
theorem d_Mo_placeOf_32 : decode b_Mo_placeOf 32 = .ok (.getfield 72, 3) := by decide +kernel
theorem d_Mo_placeOf_35 : decode b_Mo_placeOf 35 = .ok (.iload_n 1, 1) := by decide +kernel
theorem d_Mo_placeOf_36 : decode b_Mo_placeOf 36 = .ok (.iaload, 1) := by decide +kernel
theorem d_Mo_placeOf_37 : decode b_Mo_placeOf 37 = .ok (.if_icmp .ne 11, 3) := by decide +kernel
theorem d_Mo_placeOf_40 : decode b_Mo_placeOf 40 = .ok (.iload_n 3, 1) := by decide +kernel
theorem d_Mo_placeOf_41 : decode b_Mo_placeOf 41 = .ok (.iload_n 1, 1) := by decide +kernel
theorem d_Mo_placeOf_42 : decode b_Mo_placeOf 42 = .ok (.if_icmp .ge 6, 3) := by decide +kernel
theorem d_Mo_placeOf_45 : decode b_Mo_placeOf 45 = .ok (.iinc 2 1, 3) := by decide +kernel
theorem d_Mo_placeOf_48 : decode b_Mo_placeOf 48 = .ok (.iinc 3 1, 3) := by decide +kernel
theorem d_Mo_placeOf_51 : decode b_Mo_placeOf 51 = .ok (.goto (-47), 3) := by decide +kernel
theorem d_Mo_placeOf_54 : decode b_Mo_placeOf 54 = .ok (.iload_n 2, 1) := by decide +kernel
theorem d_Mo_placeOf_55 : decode b_Mo_placeOf 55 = .ok (.ireturn, 1) := by decide +kernel
theorem d_Mo_fuse_0 : decode b_Mo_fuse 0 = .ok (.iload_n 1, 1) := by decide +kernel
theorem d_Mo_fuse_1 : decode b_Mo_fuse 1 = .ok (.iconst 1, 1) := by decide +kernel
theorem d_Mo_fuse_2 : decode b_Mo_fuse 2 = .ok (.bipush 10, 2) := by decide +kernel
theorem d_Mo_fuse_4 : decode b_Mo_fuse 4 = .ok (.invokestatic 136, 3) := by decide +kernel
theorem d_Mo_fuse_7 : decode b_Mo_fuse 7 = .ok (.ifCond .eq 14, 3) := by decide +kernel
theorem d_Mo_fuse_10 : decode b_Mo_fuse 10 = .ok (.iload_n 2, 1) := by decide +kernel
theorem d_Mo_fuse_11 : decode b_Mo_fuse 11 = .ok (.iconst 0, 1) := by decide +kernel
theorem d_Mo_fuse_12 : decode b_Mo_fuse 12 = .ok (.sipush 255, 3) := by decide +kernel
theorem d_Mo_fuse_15 : decode b_Mo_fuse 15 = .ok (.invokestatic 136, 3) := by decide +kernel
theorem d_Mo_fuse_18 : decode b_Mo_fuse 18 = .ok (.ifCond .ne 5, 3) := by decide +kernel
theorem d_Mo_fuse_21 : decode b_Mo_fuse 21 = .ok (.iconst (-1), 1) := by decide +kernel
theorem d_Mo_fuse_22 : decode b_Mo_fuse 22 = .ok (.ireturn, 1) := by decide +kernel
theorem d_Mo_fuse_23 : decode b_Mo_fuse 23 = .ok (.aload_n 0, 1) := by decide +kernel
theorem d_Mo_fuse_24 : decode b_Mo_fuse 24 = .ok (.iload_n 2, 1) := by decide +kernel
theorem d_Mo_fuse_25 : decode b_Mo_fuse 25 = .ok (.invokevirtual 165, 3) := by decide +kernel
theorem d_Mo_fuse_28 : decode b_Mo_fuse 28 = .ok (.iconst 0, 1) := by decide +kernel
theorem d_Mo_fuse_29 : decode b_Mo_fuse 29 = .ok (.istore_n 3, 1) := by decide +kernel
theorem d_Mo_fuse_30 : decode b_Mo_fuse 30 = .ok (.iload_n 3, 1) := by decide +kernel
theorem d_Mo_fuse_31 : decode b_Mo_fuse 31 = .ok (.bipush 30, 2) := by decide +kernel
theorem d_Mo_fuse_33 : decode b_Mo_fuse 33 = .ok (.if_icmp .ge 51, 3) := by decide +kernel
theorem d_Mo_fuse_36 : decode b_Mo_fuse 36 = .ok (.aload_n 0, 1) := by decide +kernel
theorem d_Mo_fuse_37 : decode b_Mo_fuse 37 = .ok (.iload_n 3, 1) := by decide +kernel
theorem d_Mo_fuse_38 : decode b_Mo_fuse 38 = .ok (.invokevirtual 162, 3) := by decide +kernel
theorem d_Mo_fuse_41 : decode b_Mo_fuse 41 = .ok (.istore 4, 2) := by decide +kernel
theorem d_Mo_fuse_43 : decode b_Mo_fuse 43 = .ok (.aload_n 0, 1) := by decide +kernel
theorem d_Mo_fuse_44 : decode b_Mo_fuse 44 = .ok (.getfield 63, 3) := by decide +kernel
theorem d_Mo_fuse_47 : decode b_Mo_fuse 47 = .ok (.iload_n 3, 1) := by decide +kernel
theorem d_Mo_fuse_48 : decode b_Mo_fuse 48 = .ok (.aload_n 0, 1) := by decide +kernel
theorem d_Mo_fuse_49 : decode b_Mo_fuse 49 = .ok (.getfield 72, 3) := by decide +kernel
theorem d_Mo_fuse_52 : decode b_Mo_fuse 52 = .ok (.iload_n 3, 1) := by decide +kernel
theorem d_Mo_fuse_53 : decode b_Mo_fuse 53 = .ok (.iaload, 1) := by decide +kernel
theorem d_Mo_fuse_54 : decode b_Mo_fuse 54 = .ok (.ifCond .le 22, 3) := by decide +kernel
theorem d_Mo_fuse_57 : decode b_Mo_fuse 57 = .ok (.iload 4, 2) := by decide +kernel
theorem d_Mo_fuse_59 : decode b_Mo_fuse 59 = .ok (.bipush 10, 2) := by decide +kernel
theorem d_Mo_fuse_61 : decode b_Mo_fuse 61 = .ok (.if_icmp .ge 15, 3) := by decide +kernel
theorem d_Mo_fuse_64 : decode b_Mo_fuse 64 = .ok (.sipush 1000, 3) := by decide +kernel
theorem d_Mo_fuse_67 : decode b_Mo_fuse 67 = .ok (.bipush 10, 2) := by decide +kernel
theorem d_Mo_fuse_69 : decode b_Mo_fuse 69 = .ok (.iload 4, 2) := by decide +kernel
theorem d_Mo_fuse_71 : decode b_Mo_fuse 71 = .ok (.iadd, 1) := by decide +kernel
theorem d_Mo_fuse_72 : decode b_Mo_fuse 72 = .ok (.idiv, 1) := by decide +kernel
theorem d_Mo_fuse_73 : decode b_Mo_fuse 73 = .ok (.goto 4, 3) := by decide +kernel
theorem d_Mo_fuse_76 : decode b_Mo_fuse 76 = .ok (.iconst 0, 1) := by decide +kernel
theorem d_Mo_fuse_77 : decode b_Mo_fuse 77 = .ok (.iastore, 1) := by decide +kernel
theorem d_Mo_fuse_78 : decode b_Mo_fuse 78 = .ok (.iinc 3 1, 3) := by decide +kernel
theorem d_Mo_fuse_81 : decode b_Mo_fuse 81 = .ok (.goto (-51), 3) := by decide +kernel
theorem d_Mo_fuse_84 : decode b_Mo_fuse 84 = .ok (.aload_n 0, 1) := by decide +kernel
theorem d_Mo_fuse_85 : decode b_Mo_fuse 85 = .ok (.bipush 10, 2) := by decide +kernel
theorem d_Mo_fuse_87 : decode b_Mo_fuse 87 = .ok (.invokevirtual 150, 3) := by decide +kernel
theorem d_Mo_fuse_90 : decode b_Mo_fuse 90 = .ok (.iconst 0, 1) := by decide +kernel
theorem d_Mo_fuse_91 : decode b_Mo_fuse 91 = .ok (.istore_n 3, 1) := by decide +kernel
theorem d_Mo_fuse_92 : decode b_Mo_fuse 92 = .ok (.iload_n 3, 1) := by decide +kernel
theorem d_Mo_fuse_93 : decode b_Mo_fuse 93 = .ok (.bipush 30, 2) := by decide +kernel
theorem d_Mo_fuse_95 : decode b_Mo_fuse 95 = .ok (.if_icmp .ge 21, 3) := by decide +kernel
theorem d_Mo_fuse_98 : decode b_Mo_fuse 98 = .ok (.aload_n 0, 1) := by decide +kernel
theorem d_Mo_fuse_99 : decode b_Mo_fuse 99 = .ok (.getfield 72, 3) := by decide +kernel
theorem d_Mo_fuse_102 : decode b_Mo_fuse 102 = .ok (.iload_n 3, 1) := by decide +kernel
theorem d_Mo_fuse_103 : decode b_Mo_fuse 103 = .ok (.aload_n 0, 1) := by decide +kernel
theorem d_Mo_fuse_104 : decode b_Mo_fuse 104 = .ok (.getfield 63, 3) := by decide +kernel
theorem d_Mo_fuse_107 : decode b_Mo_fuse 107 = .ok (.iload_n 3, 1) := by decide +kernel
theorem d_Mo_fuse_108 : decode b_Mo_fuse 108 = .ok (.iaload, 1) := by decide +kernel
theorem d_Mo_fuse_109 : decode b_Mo_fuse 109 = .ok (.iastore, 1) := by decide +kernel
theorem d_Mo_fuse_110 : decode b_Mo_fuse 110 = .ok (.iinc 3 1, 3) := by decide +kernel
theorem d_Mo_fuse_113 : decode b_Mo_fuse 113 = .ok (.goto (-21), 3) := by decide +kernel
theorem d_Mo_fuse_116 : decode b_Mo_fuse 116 = .ok (.iconst 0, 1) := by decide +kernel
theorem d_Mo_fuse_117 : decode b_Mo_fuse 117 = .ok (.istore_n 3, 1) := by decide +kernel
theorem d_Mo_fuse_118 : decode b_Mo_fuse 118 = .ok (.iload_n 3, 1) := by decide +kernel
theorem d_Mo_fuse_119 : decode b_Mo_fuse 119 = .ok (.aload_n 0, 1) := by decide +kernel
theorem d_Mo_fuse_120 : decode b_Mo_fuse 120 = .ok (.getfield 83, 3) := by decide +kernel
theorem d_Mo_fuse_123 : decode b_Mo_fuse 123 = .ok (.if_icmp .ge 37, 3) := by decide +kernel
theorem d_Mo_fuse_126 : decode b_Mo_fuse 126 = .ok (.iload_n 3, 1) := by decide +kernel
theorem d_Mo_fuse_127 : decode b_Mo_fuse 127 = .ok (.bipush 10, 2) := by decide +kernel
theorem d_Mo_fuse_129 : decode b_Mo_fuse 129 = .ok (.if_icmp .ge 31, 3) := by decide +kernel
theorem d_Mo_fuse_132 : decode b_Mo_fuse 132 = .ok (.aload_n 0, 1) := by decide +kernel
theorem d_Mo_fuse_133 : decode b_Mo_fuse 133 = .ok (.getfield 72, 3) := by decide +kernel
theorem d_Mo_fuse_136 : decode b_Mo_fuse 136 = .ok (.aload_n 0, 1) := by decide +kernel
theorem d_Mo_fuse_137 : decode b_Mo_fuse 137 = .ok (.getfield 57, 3) := by decide +kernel
theorem d_Mo_fuse_140 : decode b_Mo_fuse 140 = .ok (.iload_n 3, 1) := by decide +kernel
theorem d_Mo_fuse_141 : decode b_Mo_fuse 141 = .ok (.iaload, 1) := by decide +kernel
theorem d_Mo_fuse_142 : decode b_Mo_fuse 142 = .ok (.dup2, 1) := by decide +kernel
theorem d_Mo_fuse_143 : decode b_Mo_fuse 143 = .ok (.iaload, 1) := by decide +kernel
theorem d_Mo_fuse_144 : decode b_Mo_fuse 144 = .ok (.sipush 1000, 3) := by decide +kernel
theorem d_Mo_fuse_147 : decode b_Mo_fuse 147 = .ok (.bipush 10, 2) := by decide +kernel
theorem d_Mo_fuse_149 : decode b_Mo_fuse 149 = .ok (.iload_n 3, 1) := by decide +kernel
theorem d_Mo_fuse_150 : decode b_Mo_fuse 150 = .ok (.iadd, 1) := by decide +kernel
theorem d_Mo_fuse_151 : decode b_Mo_fuse 151 = .ok (.idiv, 1) := by decide +kernel
theorem d_Mo_fuse_152 : decode b_Mo_fuse 152 = .ok (.iadd, 1) := by decide +kernel
theorem d_Mo_fuse_153 : decode b_Mo_fuse 153 = .ok (.iastore, 1) := by decide +kernel
theorem d_Mo_fuse_154 : decode b_Mo_fuse 154 = .ok (.iinc 3 1, 3) := by decide +kernel
theorem d_Mo_fuse_157 : decode b_Mo_fuse 157 = .ok (.goto (-39), 3) := by decide +kernel
theorem d_Mo_fuse_160 : decode b_Mo_fuse 160 = .ok (.aload_n 0, 1) := by decide +kernel
theorem d_Mo_fuse_161 : decode b_Mo_fuse 161 = .ok (.iload_n 1, 1) := by decide +kernel
theorem d_Mo_fuse_162 : decode b_Mo_fuse 162 = .ok (.invokevirtual 168, 3) := by decide +kernel
theorem d_Mo_fuse_165 : decode b_Mo_fuse 165 = .ok (.ireturn, 1) := by decide +kernel
theorem d_Mo_found_0 : decode b_Mo_found 0 = .ok (.iload_n 2, 1) := by decide +kernel
theorem d_Mo_found_1 : decode b_Mo_found 1 = .ok (.iconst 0, 1) := by decide +kernel
theorem d_Mo_found_2 : decode b_Mo_found 2 = .ok (.iconst 2, 1) := by decide +kernel
theorem d_Mo_found_3 : decode b_Mo_found 3 = .ok (.invokestatic 136, 3) := by decide +kernel
theorem d_Mo_found_6 : decode b_Mo_found 6 = .ok (.ifCond .ne 5, 3) := by decide +kernel
theorem d_Mo_found_9 : decode b_Mo_found 9 = .ok (.iconst (-1), 1) := by decide +kernel
theorem d_Mo_found_10 : decode b_Mo_found 10 = .ok (.ireturn, 1) := by decide +kernel
theorem d_Mo_found_11 : decode b_Mo_found 11 = .ok (.iload_n 1, 1) := by decide +kernel
theorem d_Mo_found_12 : decode b_Mo_found 12 = .ok (.iconst 0, 1) := by decide +kernel
theorem d_Mo_found_13 : decode b_Mo_found 13 = .ok (.aload_n 0, 1) := by decide +kernel
theorem d_Mo_found_14 : decode b_Mo_found 14 = .ok (.getfield 153, 3) := by decide +kernel
theorem d_Mo_found_17 : decode b_Mo_found 17 = .ok (.iconst 1, 1) := by decide +kernel
theorem d_Mo_found_18 : decode b_Mo_found 18 = .ok (.isub, 1) := by decide +kernel
theorem d_Mo_found_19 : decode b_Mo_found 19 = .ok (.invokestatic 136, 3) := by decide +kernel
theorem d_Mo_found_22 : decode b_Mo_found 22 = .ok (.ifCond .ne 6, 3) := by decide +kernel
theorem d_Mo_found_25 : decode b_Mo_found 25 = .ok (.bipush (-2), 2) := by decide +kernel
theorem d_Mo_found_27 : decode b_Mo_found 27 = .ok (.ireturn, 1) := by decide +kernel
theorem d_Mo_found_28 : decode b_Mo_found 28 = .ok (.iload_n 2, 1) := by decide +kernel
theorem d_Mo_found_29 : decode b_Mo_found 29 = .ok (.ifCond .ne 12, 3) := by decide +kernel
theorem d_Mo_found_32 : decode b_Mo_found 32 = .ok (.aload_n 0, 1) := by decide +kernel
theorem d_Mo_found_33 : decode b_Mo_found 33 = .ok (.getfield 66, 3) := by decide +kernel
theorem d_Mo_found_36 : decode b_Mo_found 36 = .ok (.iload_n 1, 1) := by decide +kernel
theorem d_Mo_found_37 : decode b_Mo_found 37 = .ok (.iaload, 1) := by decide +kernel
theorem d_Mo_found_38 : decode b_Mo_found 38 = .ok (.goto 36, 3) := by decide +kernel
theorem d_Mo_found_41 : decode b_Mo_found 41 = .ok (.iload_n 2, 1) := by decide +kernel
theorem d_Mo_found_42 : decode b_Mo_found 42 = .ok (.iconst 1, 1) := by decide +kernel
theorem d_Mo_found_43 : decode b_Mo_found 43 = .ok (.if_icmp .ne 12, 3) := by decide +kernel
theorem d_Mo_found_46 : decode b_Mo_found 46 = .ok (.aload_n 0, 1) := by decide +kernel
theorem d_Mo_found_47 : decode b_Mo_found 47 = .ok (.getfield 69, 3) := by decide +kernel
theorem d_Mo_found_50 : decode b_Mo_found 50 = .ok (.iload_n 1, 1) := by decide +kernel
theorem d_Mo_found_51 : decode b_Mo_found 51 = .ok (.iaload, 1) := by decide +kernel
theorem d_Mo_found_52 : decode b_Mo_found 52 = .ok (.goto 22, 3) := by decide +kernel
theorem d_Mo_found_55 : decode b_Mo_found 55 = .ok (.aload_n 0, 1) := by decide +kernel
theorem d_Mo_found_56 : decode b_Mo_found 56 = .ok (.getfield 13, 3) := by decide +kernel
theorem d_Mo_found_59 : decode b_Mo_found 59 = .ok (.aload_n 0, 1) := by decide +kernel
theorem d_Mo_found_60 : decode b_Mo_found 60 = .ok (.getfield 66, 3) := by decide +kernel
theorem d_Mo_found_63 : decode b_Mo_found 63 = .ok (.iload_n 1, 1) := by decide +kernel
theorem d_Mo_found_64 : decode b_Mo_found 64 = .ok (.iaload, 1) := by decide +kernel
theorem d_Mo_found_65 : decode b_Mo_found 65 = .ok (.baload, 1) := by decide +kernel
theorem d_Mo_found_66 : decode b_Mo_found 66 = .ok (.ifCond .eq 7, 3) := by decide +kernel
theorem d_Mo_found_69 : decode b_Mo_found 69 = .ok (.iconst 1, 1) := by decide +kernel
theorem d_Mo_found_70 : decode b_Mo_found 70 = .ok (.goto 4, 3) := by decide +kernel
theorem d_Mo_found_73 : decode b_Mo_found 73 = .ok (.iconst 0, 1) := by decide +kernel
theorem d_Mo_found_74 : decode b_Mo_found 74 = .ok (.ireturn, 1) := by decide +kernel
theorem d_Mo_node_0 : decode b_Mo_node 0 = .ok (.iload_n 2, 1) := by decide +kernel
theorem d_Mo_node_1 : decode b_Mo_node 1 = .ok (.iconst 0, 1) := by decide +kernel
theorem d_Mo_node_2 : decode b_Mo_node 2 = .ok (.bipush 7, 2) := by decide +kernel
theorem d_Mo_node_4 : decode b_Mo_node 4 = .ok (.invokestatic 136, 3) := by decide +kernel
theorem d_Mo_node_7 : decode b_Mo_node 7 = .ok (.ifCond .ne 16, 3) := by decide +kernel
theorem d_Mo_node_10 : decode b_Mo_node 10 = .ok (.iload_n 2, 1) := by decide +kernel
theorem d_Mo_node_11 : decode b_Mo_node 11 = .ok (.bipush 10, 2) := by decide +kernel
theorem d_Mo_node_13 : decode b_Mo_node 13 = .ok (.bipush 13, 2) := by decide +kernel
theorem d_Mo_node_15 : decode b_Mo_node 15 = .ok (.invokestatic 136, 3) := by decide +kernel
theorem d_Mo_node_18 : decode b_Mo_node 18 = .ok (.ifCond .ne 5, 3) := by decide +kernel
theorem d_Mo_node_21 : decode b_Mo_node 21 = .ok (.iconst (-1), 1) := by decide +kernel
theorem d_Mo_node_22 : decode b_Mo_node 22 = .ok (.ireturn, 1) := by decide +kernel
theorem d_Mo_node_23 : decode b_Mo_node 23 = .ok (.iload_n 1, 1) := by decide +kernel
theorem d_Mo_node_24 : decode b_Mo_node 24 = .ok (.iconst 0, 1) := by decide +kernel
theorem d_Mo_node_25 : decode b_Mo_node 25 = .ok (.bipush 29, 2) := by decide +kernel
theorem d_Mo_node_27 : decode b_Mo_node 27 = .ok (.invokestatic 136, 3) := by decide +kernel
theorem d_Mo_node_30 : decode b_Mo_node 30 = .ok (.ifCond .eq 12, 3) := by decide +kernel
theorem d_Mo_node_33 : decode b_Mo_node 33 = .ok (.aload_n 0, 1) := by decide +kernel
theorem d_Mo_node_34 : decode b_Mo_node 34 = .ok (.getfield 7, 3) := by decide +kernel
theorem d_Mo_node_37 : decode b_Mo_node 37 = .ok (.iload_n 1, 1) := by decide +kernel
theorem d_Mo_node_38 : decode b_Mo_node 38 = .ok (.baload, 1) := by decide +kernel
theorem d_Mo_node_39 : decode b_Mo_node 39 = .ok (.ifCond .ne 6, 3) := by decide +kernel
theorem d_Mo_node_42 : decode b_Mo_node 42 = .ok (.bipush (-2), 2) := by decide +kernel
theorem d_Mo_node_44 : decode b_Mo_node 44 = .ok (.ireturn, 1) := by decide +kernel
theorem d_Mo_node_45 : decode b_Mo_node 45 = .ok (.iload_n 2, 1) := by decide +kernel
theorem d_Mo_node_46 : decode b_Mo_node 46 = .ok (.bipush 10, 2) := by decide +kernel
theorem d_Mo_node_48 : decode b_Mo_node 48 = .ok (.if_icmp .lt 35, 3) := by decide +kernel
theorem d_Mo_node_51 : decode b_Mo_node 51 = .ok (.iload_n 2, 1) := by decide +kernel
theorem d_Mo_node_52 : decode b_Mo_node 52 = .ok (.bipush 10, 2) := by decide +kernel
theorem d_Mo_node_54 : decode b_Mo_node 54 = .ok (.isub, 1) := by decide +kernel
theorem d_Mo_node_55 : decode b_Mo_node 55 = .ok (.aload_n 0, 1) := by decide +kernel
theorem d_Mo_node_56 : decode b_Mo_node 56 = .ok (.getfield 23, 3) := by decide +kernel
theorem d_Mo_node_59 : decode b_Mo_node 59 = .ok (.iload_n 1, 1) := by decide +kernel
theorem d_Mo_node_60 : decode b_Mo_node 60 = .ok (.iaload, 1) := by decide +kernel
theorem d_Mo_node_61 : decode b_Mo_node 61 = .ok (.if_icmp .gt 19, 3) := by decide +kernel
theorem d_Mo_node_64 : decode b_Mo_node 64 = .ok (.aload_n 0, 1) := by decide +kernel
theorem d_Mo_node_65 : decode b_Mo_node 65 = .ok (.getfield 32, 3) := by decide +kernel
theorem d_Mo_node_68 : decode b_Mo_node 68 = .ok (.iconst 4, 1) := by decide +kernel
theorem d_Mo_node_69 : decode b_Mo_node 69 = .ok (.iload_n 1, 1) := by decide +kernel
theorem d_Mo_node_70 : decode b_Mo_node 70 = .ok (.imul, 1) := by decide +kernel
theorem d_Mo_node_71 : decode b_Mo_node 71 = .ok (.iload_n 2, 1) := by decide +kernel
theorem d_Mo_node_72 : decode b_Mo_node 72 = .ok (.iadd, 1) := by decide +kernel
theorem d_Mo_node_73 : decode b_Mo_node 73 = .ok (.bipush 10, 2) := by decide +kernel
theorem d_Mo_node_75 : decode b_Mo_node 75 = .ok (.isub, 1) := by decide +kernel
theorem d_Mo_node_76 : decode b_Mo_node 76 = .ok (.iaload, 1) := by decide +kernel
theorem d_Mo_node_77 : decode b_Mo_node 77 = .ok (.goto 5, 3) := by decide +kernel
theorem d_Mo_node_80 : decode b_Mo_node 80 = .ok (.bipush (-2), 2) := by decide +kernel
theorem d_Mo_node_82 : decode b_Mo_node 82 = .ok (.ireturn, 1) := by decide +kernel
theorem d_Mo_node_83 : decode b_Mo_node 83 = .ok (.iload_n 2, 1) := by decide +kernel
theorem d_Mo_node_84 : decode b_Mo_node 84 = .ok (.ifCond .ne 12, 3) := by decide +kernel
theorem d_Mo_node_87 : decode b_Mo_node 87 = .ok (.aload_n 0, 1) := by decide +kernel
theorem d_Mo_node_88 : decode b_Mo_node 88 = .ok (.getfield 23, 3) := by decide +kernel
theorem d_Mo_node_91 : decode b_Mo_node 91 = .ok (.iload_n 1, 1) := by decide +kernel
theorem d_Mo_node_92 : decode b_Mo_node 92 = .ok (.iaload, 1) := by decide +kernel
theorem d_Mo_node_93 : decode b_Mo_node 93 = .ok (.goto 66, 3) := by decide +kernel
theorem d_Mo_node_96 : decode b_Mo_node 96 = .ok (.iload_n 2, 1) := by decide +kernel
theorem d_Mo_node_97 : decode b_Mo_node 97 = .ok (.iconst 1, 1) := by decide +kernel
theorem d_Mo_node_98 : decode b_Mo_node 98 = .ok (.if_icmp .ne 12, 3) := by decide +kernel
theorem d_Mo_node_101 : decode b_Mo_node 101 = .ok (.aload_n 0, 1) := by decide +kernel
theorem d_Mo_node_102 : decode b_Mo_node 102 = .ok (.getfield 26, 3) := by decide +kernel
theorem d_Mo_node_105 : decode b_Mo_node 105 = .ok (.iload_n 1, 1) := by decide +kernel
theorem d_Mo_node_106 : decode b_Mo_node 106 = .ok (.iaload, 1) := by decide +kernel
theorem d_Mo_node_107 : decode b_Mo_node 107 = .ok (.goto 52, 3) := by decide +kernel
theorem d_Mo_node_110 : decode b_Mo_node 110 = .ok (.iload_n 2, 1) := by decide +kernel
theorem d_Mo_node_111 : decode b_Mo_node 111 = .ok (.iconst 2, 1) := by decide +kernel
theorem d_Mo_node_112 : decode b_Mo_node 112 = .ok (.if_icmp .ne 20, 3) := by decide +kernel
theorem d_Mo_node_115 : decode b_Mo_node 115 = .ok (.aload_n 0, 1) := by decide +kernel
theorem d_Mo_node_116 : decode b_Mo_node 116 = .ok (.getfield 13, 3) := by decide +kernel
theorem d_Mo_node_119 : decode b_Mo_node 119 = .ok (.iload_n 1, 1) := by decide +kernel
theorem d_Mo_node_120 : decode b_Mo_node 120 = .ok (.baload, 1) := by decide +kernel
theorem d_Mo_node_121 : decode b_Mo_node 121 = .ok (.ifCond .eq 7, 3) := by decide +kernel
theorem d_Mo_node_124 : decode b_Mo_node 124 = .ok (.iconst 1, 1) := by decide +kernel
theorem d_Mo_node_125 : decode b_Mo_node 125 = .ok (.goto 34, 3) := by decide +kernel
theorem d_Mo_node_128 : decode b_Mo_node 128 = .ok (.iconst 0, 1) := by decide +kernel
theorem d_Mo_node_129 : decode b_Mo_node 129 = .ok (.goto 30, 3) := by decide +kernel
theorem d_Mo_node_132 : decode b_Mo_node 132 = .ok (.iload_n 2, 1) := by decide +kernel
theorem d_Mo_node_133 : decode b_Mo_node 133 = .ok (.bipush 7, 2) := by decide +kernel
theorem d_Mo_node_135 : decode b_Mo_node 135 = .ok (.if_icmp .ne 12, 3) := by decide +kernel
theorem d_Mo_node_138 : decode b_Mo_node 138 = .ok (.aload_n 0, 1) := by decide +kernel
theorem d_Mo_node_139 : decode b_Mo_node 139 = .ok (.getfield 20, 3) := by decide +kernel
theorem d_Mo_node_142 : decode b_Mo_node 142 = .ok (.iload_n 1, 1) := by decide +kernel
theorem d_Mo_node_143 : decode b_Mo_node 143 = .ok (.iaload, 1) := by decide +kernel
theorem d_Mo_node_144 : decode b_Mo_node 144 = .ok (.goto 15, 3) := by decide +kernel
theorem d_Mo_node_147 : decode b_Mo_node 147 = .ok (.aload_n 0, 1) := by decide +kernel
theorem d_Mo_node_148 : decode b_Mo_node 148 = .ok (.getfield 16, 3) := by decide +kernel
theorem d_Mo_node_151 : decode b_Mo_node 151 = .ok (.iconst 4, 1) := by decide +kernel
theorem d_Mo_node_152 : decode b_Mo_node 152 = .ok (.iload_n 1, 1) := by decide +kernel
theorem d_Mo_node_153 : decode b_Mo_node 153 = .ok (.imul, 1) := by decide +kernel
theorem d_Mo_node_154 : decode b_Mo_node 154 = .ok (.iload_n 2, 1) := by decide +kernel
theorem d_Mo_node_155 : decode b_Mo_node 155 = .ok (.iadd, 1) := by decide +kernel
theorem d_Mo_node_156 : decode b_Mo_node 156 = .ok (.iconst 3, 1) := by decide +kernel
theorem d_Mo_node_157 : decode b_Mo_node 157 = .ok (.isub, 1) := by decide +kernel
theorem d_Mo_node_158 : decode b_Mo_node 158 = .ok (.iaload, 1) := by decide +kernel
theorem d_Mo_node_159 : decode b_Mo_node 159 = .ok (.ireturn, 1) := by decide +kernel
theorem d_Mo_neighbour_0 : decode b_Mo_neighbour 0 = .ok (.iload_n 1, 1) := by decide +kernel
theorem d_Mo_neighbour_1 : decode b_Mo_neighbour 1 = .ok (.iconst 0, 1) := by decide +kernel
theorem d_Mo_neighbour_2 : decode b_Mo_neighbour 2 = .ok (.bipush 29, 2) := by decide +kernel
theorem d_Mo_neighbour_4 : decode b_Mo_neighbour 4 = .ok (.invokestatic 136, 3) := by decide +kernel
theorem d_Mo_neighbour_7 : decode b_Mo_neighbour 7 = .ok (.ifCond .eq 51, 3) := by decide +kernel
theorem d_Mo_neighbour_10 : decode b_Mo_neighbour 10 = .ok (.aload_n 0, 1) := by decide +kernel
theorem d_Mo_neighbour_11 : decode b_Mo_neighbour 11 = .ok (.getfield 7, 3) := by decide +kernel
theorem d_Mo_neighbour_14 : decode b_Mo_neighbour 14 = .ok (.iload_n 1, 1) := by decide +kernel
theorem d_Mo_neighbour_15 : decode b_Mo_neighbour 15 = .ok (.baload, 1) := by decide +kernel
theorem d_Mo_neighbour_16 : decode b_Mo_neighbour 16 = .ok (.ifCond .eq 42, 3) := by decide +kernel
theorem d_Mo_neighbour_19 : decode b_Mo_neighbour 19 = .ok (.iload_n 2, 1) := by decide +kernel
theorem d_Mo_neighbour_20 : decode b_Mo_neighbour 20 = .ok (.iconst 0, 1) := by decide +kernel
theorem d_Mo_neighbour_21 : decode b_Mo_neighbour 21 = .ok (.iconst 3, 1) := by decide +kernel
theorem d_Mo_neighbour_22 : decode b_Mo_neighbour 22 = .ok (.invokestatic 136, 3) := by decide +kernel
theorem d_Mo_neighbour_25 : decode b_Mo_neighbour 25 = .ok (.ifCond .eq 33, 3) := by decide +kernel
theorem d_Mo_neighbour_28 : decode b_Mo_neighbour 28 = .ok (.iload_n 2, 1) := by decide +kernel
theorem d_Mo_neighbour_29 : decode b_Mo_neighbour 29 = .ok (.aload_n 0, 1) := by decide +kernel
theorem d_Mo_neighbour_30 : decode b_Mo_neighbour 30 = .ok (.getfield 23, 3) := by decide +kernel
theorem d_Mo_neighbour_33 : decode b_Mo_neighbour 33 = .ok (.iload_n 1, 1) := by decide +kernel
theorem d_Mo_neighbour_34 : decode b_Mo_neighbour 34 = .ok (.iaload, 1) := by decide +kernel
theorem d_Mo_neighbour_35 : decode b_Mo_neighbour 35 = .ok (.if_icmp .gt 23, 3) := by decide +kernel
theorem d_Mo_neighbour_38 : decode b_Mo_neighbour 38 = .ok (.iload_n 3, 1) := by decide +kernel
theorem d_Mo_neighbour_39 : decode b_Mo_neighbour 39 = .ok (.iconst 0, 1) := by decide +kernel
theorem d_Mo_neighbour_40 : decode b_Mo_neighbour 40 = .ok (.aload_n 0, 1) := by decide +kernel
theorem d_Mo_neighbour_41 : decode b_Mo_neighbour 41 = .ok (.getfield 32, 3) := by decide +kernel
theorem d_Mo_neighbour_44 : decode b_Mo_neighbour 44 = .ok (.iconst 4, 1) := by decide +kernel
theorem d_Mo_neighbour_45 : decode b_Mo_neighbour 45 = .ok (.iload_n 1, 1) := by decide +kernel
theorem d_Mo_neighbour_46 : decode b_Mo_neighbour 46 = .ok (.imul, 1) := by decide +kernel
theorem d_Mo_neighbour_47 : decode b_Mo_neighbour 47 = .ok (.iload_n 2, 1) := by decide +kernel
theorem d_Mo_neighbour_48 : decode b_Mo_neighbour 48 = .ok (.iadd, 1) := by decide +kernel
theorem d_Mo_neighbour_49 : decode b_Mo_neighbour 49 = .ok (.iaload, 1) := by decide +kernel
theorem d_Mo_neighbour_50 : decode b_Mo_neighbour 50 = .ok (.iconst 1, 1) := by decide +kernel
theorem d_Mo_neighbour_51 : decode b_Mo_neighbour 51 = .ok (.isub, 1) := by decide +kernel
theorem d_Mo_neighbour_52 : decode b_Mo_neighbour 52 = .ok (.invokestatic 136, 3) := by decide +kernel
theorem d_Mo_neighbour_55 : decode b_Mo_neighbour 55 = .ok (.ifCond .ne 6, 3) := by decide +kernel
theorem d_Mo_neighbour_58 : decode b_Mo_neighbour 58 = .ok (.bipush (-2), 2) := by decide +kernel
theorem d_Mo_neighbour_60 : decode b_Mo_neighbour 60 = .ok (.ireturn, 1) := by decide +kernel
theorem d_Mo_neighbour_61 : decode b_Mo_neighbour 61 = .ok (.aload_n 0, 1) := by decide +kernel
theorem d_Mo_neighbour_62 : decode b_Mo_neighbour 62 = .ok (.getfield 29, 3) := by decide +kernel
theorem d_Mo_neighbour_65 : decode b_Mo_neighbour 65 = .ok (.bipush 7, 2) := by decide +kernel
theorem d_Mo_neighbour_67 : decode b_Mo_neighbour 67 = .ok (.iconst 4, 1) := by decide +kernel
theorem d_Mo_neighbour_68 : decode b_Mo_neighbour 68 = .ok (.iload_n 1, 1) := by decide +kernel
theorem d_Mo_neighbour_69 : decode b_Mo_neighbour 69 = .ok (.imul, 1) := by decide +kernel
theorem d_Mo_neighbour_70 : decode b_Mo_neighbour 70 = .ok (.iload_n 2, 1) := by decide +kernel
theorem d_Mo_neighbour_71 : decode b_Mo_neighbour 71 = .ok (.iadd, 1) := by decide +kernel
theorem d_Mo_neighbour_72 : decode b_Mo_neighbour 72 = .ok (.imul, 1) := by decide +kernel
theorem d_Mo_neighbour_73 : decode b_Mo_neighbour 73 = .ok (.iload_n 3, 1) := by decide +kernel
theorem d_Mo_neighbour_74 : decode b_Mo_neighbour 74 = .ok (.iadd, 1) := by decide +kernel
theorem d_Mo_neighbour_75 : decode b_Mo_neighbour 75 = .ok (.iaload, 1) := by decide +kernel
theorem d_Mo_neighbour_76 : decode b_Mo_neighbour 76 = .ok (.ireturn, 1) := by decide +kernel
theorem d_Mo_count_0 : decode b_Mo_count 0 = .ok (.iload_n 1, 1) := by decide +kernel
theorem d_Mo_count_1 : decode b_Mo_count 1 = .ok (.tableswitch 142 0 9 #[55, 63, 71, 88, 110, 116, 122, 127, 132, 137], 55) := by decide +kernel
theorem d_Mo_count_56 : decode b_Mo_count 56 = .ok (.aload_n 0, 1) := by decide +kernel
theorem d_Mo_count_57 : decode b_Mo_count 57 = .ok (.getfield 7, 3) := by decide +kernel
theorem d_Mo_count_60 : decode b_Mo_count 60 = .ok (.invokestatic 86, 3) := by decide +kernel
theorem d_Mo_count_63 : decode b_Mo_count 63 = .ok (.ireturn, 1) := by decide +kernel
theorem d_Mo_count_64 : decode b_Mo_count 64 = .ok (.aload_n 0, 1) := by decide +kernel
theorem d_Mo_count_65 : decode b_Mo_count 65 = .ok (.getfield 13, 3) := by decide +kernel
theorem d_Mo_count_68 : decode b_Mo_count 68 = .ok (.invokestatic 86, 3) := by decide +kernel
theorem d_Mo_count_71 : decode b_Mo_count 71 = .ok (.ireturn, 1) := by decide +kernel
theorem d_Mo_count_72 : decode b_Mo_count 72 = .ok (.aload_n 0, 1) := by decide +kernel
theorem d_Mo_count_73 : decode b_Mo_count 73 = .ok (.getfield 35, 3) := by decide +kernel
theorem d_Mo_count_76 : decode b_Mo_count 76 = .ok (.ifCond .ge 8, 3) := by decide +kernel
theorem d_Mo_count_79 : decode b_Mo_count 79 = .ok (.bipush (-2), 2) := by decide +kernel
theorem d_Mo_count_81 : decode b_Mo_count 81 = .ok (.goto 7, 3) := by decide +kernel
theorem d_Mo_count_84 : decode b_Mo_count 84 = .ok (.aload_n 0, 1) := by decide +kernel
theorem d_Mo_count_85 : decode b_Mo_count 85 = .ok (.getfield 35, 3) := by decide +kernel
theorem d_Mo_count_88 : decode b_Mo_count 88 = .ok (.ireturn, 1) := by decide +kernel
theorem d_Mo_count_89 : decode b_Mo_count 89 = .ok (.aload_n 0, 1) := by decide +kernel
theorem d_Mo_count_90 : decode b_Mo_count 90 = .ok (.getfield 35, 3) := by decide +kernel
theorem d_Mo_count_93 : decode b_Mo_count 93 = .ok (.ifCond .ge 8, 3) := by decide +kernel
theorem d_Mo_count_96 : decode b_Mo_count 96 = .ok (.bipush (-2), 2) := by decide +kernel
theorem d_Mo_count_98 : decode b_Mo_count 98 = .ok (.goto 12, 3) := by decide +kernel
theorem d_Mo_count_101 : decode b_Mo_count 101 = .ok (.aload_n 0, 1) := by decide +kernel
theorem d_Mo_count_102 : decode b_Mo_count 102 = .ok (.getfield 23, 3) := by decide +kernel
theorem d_Mo_count_105 : decode b_Mo_count 105 = .ok (.aload_n 0, 1) := by decide +kernel
theorem d_Mo_count_106 : decode b_Mo_count 106 = .ok (.getfield 35, 3) := by decide +kernel
theorem d_Mo_count_109 : decode b_Mo_count 109 = .ok (.iaload, 1) := by decide +kernel
theorem d_Mo_count_110 : decode b_Mo_count 110 = .ok (.ireturn, 1) := by decide +kernel
theorem d_Mo_count_111 : decode b_Mo_count 111 = .ok (.aload_n 0, 1) := by decide +kernel
theorem d_Mo_count_112 : decode b_Mo_count 112 = .ok (.getfield 147, 3) := by decide +kernel
theorem d_Mo_count_115 : decode b_Mo_count 115 = .ok (.l2i, 1) := by decide +kernel
theorem d_Mo_count_116 : decode b_Mo_count 116 = .ok (.ireturn, 1) := by decide +kernel
theorem d_Mo_count_117 : decode b_Mo_count 117 = .ok (.aload_n 0, 1) := by decide +kernel
theorem d_Mo_count_118 : decode b_Mo_count 118 = .ok (.getfield 120, 3) := by decide +kernel
theorem d_Mo_count_121 : decode b_Mo_count 121 = .ok (.l2i, 1) := by decide +kernel
theorem d_Mo_count_122 : decode b_Mo_count 122 = .ok (.ireturn, 1) := by decide +kernel
theorem d_Mo_count_123 : decode b_Mo_count 123 = .ok (.aload_n 0, 1) := by decide +kernel
theorem d_Mo_count_124 : decode b_Mo_count 124 = .ok (.getfield 153, 3) := by decide +kernel
theorem d_Mo_count_127 : decode b_Mo_count 127 = .ok (.ireturn, 1) := by decide +kernel
theorem d_Mo_count_128 : decode b_Mo_count 128 = .ok (.aload_n 0, 1) := by decide +kernel
theorem d_Mo_count_129 : decode b_Mo_count 129 = .ok (.invokevirtual 174, 3) := by decide +kernel
theorem d_Mo_count_132 : decode b_Mo_count 132 = .ok (.ireturn, 1) := by decide +kernel
theorem d_Mo_count_133 : decode b_Mo_count 133 = .ok (.aload_n 0, 1) := by decide +kernel
theorem d_Mo_count_134 : decode b_Mo_count 134 = .ok (.invokevirtual 178, 3) := by decide +kernel
theorem d_Mo_count_137 : decode b_Mo_count 137 = .ok (.ireturn, 1) := by decide +kernel
theorem d_Mo_count_138 : decode b_Mo_count 138 = .ok (.aload_n 0, 1) := by decide +kernel
theorem d_Mo_count_139 : decode b_Mo_count 139 = .ok (.invokevirtual 181, 3) := by decide +kernel
theorem d_Mo_count_142 : decode b_Mo_count 142 = .ok (.ireturn, 1) := by decide +kernel
theorem d_Mo_count_143 : decode b_Mo_count 143 = .ok (.iconst (-1), 1) := by decide +kernel
theorem d_Mo_count_144 : decode b_Mo_count 144 = .ok (.ireturn, 1) := by decide +kernel
theorem d_Mo_right_0 : decode b_Mo_right 0 = .ok (.aload_n 0, 1) := by decide +kernel
theorem d_Mo_right_1 : decode b_Mo_right 1 = .ok (.invokevirtual 144, 3) := by decide +kernel
theorem d_Mo_right_4 : decode b_Mo_right 4 = .ok (.iconst 0, 1) := by decide +kernel
theorem d_Mo_right_5 : decode b_Mo_right 5 = .ok (.istore_n 1, 1) := by decide +kernel
theorem d_Mo_right_6 : decode b_Mo_right 6 = .ok (.iconst 0, 1) := by decide +kernel
theorem d_Mo_right_7 : decode b_Mo_right 7 = .ok (.istore_n 2, 1) := by decide +kernel
theorem d_Mo_right_8 : decode b_Mo_right 8 = .ok (.iload_n 2, 1) := by decide +kernel
theorem d_Mo_right_9 : decode b_Mo_right 9 = .ok (.aload_n 0, 1) := by decide +kernel
theorem d_Mo_right_10 : decode b_Mo_right 10 = .ok (.getfield 153, 3) := by decide +kernel
theorem d_Mo_right_13 : decode b_Mo_right 13 = .ok (.if_icmp .ge 80, 3) := by decide +kernel
theorem d_Mo_right_16 : decode b_Mo_right 16 = .ok (.iconst 0, 1) := by decide +kernel
theorem d_Mo_right_17 : decode b_Mo_right 17 = .ok (.istore_n 3, 1) := by decide +kernel
theorem d_Mo_right_18 : decode b_Mo_right 18 = .ok (.iconst 0, 1) := by decide +kernel
theorem d_Mo_right_19 : decode b_Mo_right 19 = .ok (.istore 4, 2) := by decide +kernel
theorem d_Mo_right_21 : decode b_Mo_right 21 = .ok (.iload 4, 2) := by decide +kernel
theorem d_Mo_right_23 : decode b_Mo_right 23 = .ok (.bipush 30, 2) := by decide +kernel
theorem d_Mo_right_25 : decode b_Mo_right 25 = .ok (.if_icmp .ge 37, 3) := by decide +kernel
theorem d_Mo_right_28 : decode b_Mo_right 28 = .ok (.aload_n 0, 1) := by decide +kernel
theorem d_Mo_right_29 : decode b_Mo_right 29 = .ok (.getfield 13, 3) := by decide +kernel
theorem d_Mo_right_32 : decode b_Mo_right 32 = .ok (.iload 4, 2) := by decide +kernel
theorem d_Mo_right_34 : decode b_Mo_right 34 = .ok (.baload, 1) := by decide +kernel
theorem d_Mo_right_35 : decode b_Mo_right 35 = .ok (.ifCond .eq 21, 3) := by decide +kernel
theorem d_Mo_right_38 : decode b_Mo_right 38 = .ok (.aload_n 0, 1) := by decide +kernel
theorem d_Mo_right_39 : decode b_Mo_right 39 = .ok (.iload 4, 2) := by decide +kernel
theorem d_Mo_right_41 : decode b_Mo_right 41 = .ok (.aload_n 0, 1) := by decide +kernel
theorem d_Mo_right_42 : decode b_Mo_right 42 = .ok (.getfield 66, 3) := by decide +kernel
theorem d_Mo_right_45 : decode b_Mo_right 45 = .ok (.iload_n 2, 1) := by decide +kernel
theorem d_Mo_right_46 : decode b_Mo_right 46 = .ok (.iaload, 1) := by decide +kernel
theorem d_Mo_right_47 : decode b_Mo_right 47 = .ok (.invokevirtual 79, 3) := by decide +kernel
theorem d_Mo_right_50 : decode b_Mo_right 50 = .ok (.ifCond .eq 6, 3) := by decide +kernel
theorem d_Mo_right_53 : decode b_Mo_right 53 = .ok (.iinc 3 1, 3) := by decide +kernel
theorem d_Mo_right_56 : decode b_Mo_right 56 = .ok (.iinc 4 1, 3) := by decide +kernel
theorem d_Mo_right_59 : decode b_Mo_right 59 = .ok (.goto (-38), 3) := by decide +kernel
theorem d_Mo_right_62 : decode b_Mo_right 62 = .ok (.aload_n 0, 1) := by decide +kernel
theorem d_Mo_right_63 : decode b_Mo_right 63 = .ok (.getfield 13, 3) := by decide +kernel
theorem d_Mo_right_66 : decode b_Mo_right 66 = .ok (.aload_n 0, 1) := by decide +kernel
theorem d_Mo_right_67 : decode b_Mo_right 67 = .ok (.getfield 66, 3) := by decide +kernel
theorem d_Mo_right_70 : decode b_Mo_right 70 = .ok (.iload_n 2, 1) := by decide +kernel
theorem d_Mo_right_71 : decode b_Mo_right 71 = .ok (.iaload, 1) := by decide +kernel
theorem d_Mo_right_72 : decode b_Mo_right 72 = .ok (.baload, 1) := by decide +kernel
theorem d_Mo_right_73 : decode b_Mo_right 73 = .ok (.ifCond .eq 14, 3) := by decide +kernel
theorem d_Mo_right_76 : decode b_Mo_right 76 = .ok (.iload_n 3, 1) := by decide +kernel
theorem d_Mo_right_77 : decode b_Mo_right 77 = .ok (.aload_n 0, 1) := by decide +kernel
theorem d_Mo_right_78 : decode b_Mo_right 78 = .ok (.getfield 153, 3) := by decide +kernel
theorem d_Mo_right_81 : decode b_Mo_right 81 = .ok (.if_icmp .ge 6, 3) := by decide +kernel
theorem d_Mo_right_84 : decode b_Mo_right 84 = .ok (.iinc 1 1, 3) := by decide +kernel
theorem d_Mo_right_87 : decode b_Mo_right 87 = .ok (.iinc 2 1, 3) := by decide +kernel
theorem d_Mo_right_90 : decode b_Mo_right 90 = .ok (.goto (-82), 3) := by decide +kernel
theorem d_Mo_right_93 : decode b_Mo_right 93 = .ok (.iload_n 1, 1) := by decide +kernel
theorem d_Mo_right_94 : decode b_Mo_right 94 = .ok (.ireturn, 1) := by decide +kernel
theorem d_Mo_oneSided_0 : decode b_Mo_oneSided 0 = .ok (.iconst 0, 1) := by decide +kernel
theorem d_Mo_oneSided_1 : decode b_Mo_oneSided 1 = .ok (.istore_n 1, 1) := by decide +kernel
theorem d_Mo_oneSided_2 : decode b_Mo_oneSided 2 = .ok (.iconst 0, 1) := by decide +kernel
theorem d_Mo_oneSided_3 : decode b_Mo_oneSided 3 = .ok (.istore_n 2, 1) := by decide +kernel
theorem d_Mo_oneSided_4 : decode b_Mo_oneSided 4 = .ok (.iload_n 2, 1) := by decide +kernel
theorem d_Mo_oneSided_5 : decode b_Mo_oneSided 5 = .ok (.bipush 30, 2) := by decide +kernel
theorem d_Mo_oneSided_7 : decode b_Mo_oneSided 7 = .ok (.if_icmp .ge 62, 3) := by decide +kernel
theorem d_Mo_oneSided_10 : decode b_Mo_oneSided 10 = .ok (.iconst 0, 1) := by decide +kernel
theorem d_Mo_oneSided_11 : decode b_Mo_oneSided 11 = .ok (.istore_n 3, 1) := by decide +kernel
theorem d_Mo_oneSided_12 : decode b_Mo_oneSided 12 = .ok (.iload_n 3, 1) := by decide +kernel
theorem d_Mo_oneSided_13 : decode b_Mo_oneSided 13 = .ok (.bipush 30, 2) := by decide +kernel
theorem d_Mo_oneSided_15 : decode b_Mo_oneSided 15 = .ok (.if_icmp .ge 48, 3) := by decide +kernel
theorem d_Mo_oneSided_18 : decode b_Mo_oneSided 18 = .ok (.aload_n 0, 1) := by decide +kernel
theorem d_Mo_oneSided_19 : decode b_Mo_oneSided 19 = .ok (.getfield 7, 3) := by decide +kernel
theorem d_Mo_oneSided_22 : decode b_Mo_oneSided 22 = .ok (.iload_n 2, 1) := by decide +kernel
theorem d_Mo_oneSided_23 : decode b_Mo_oneSided 23 = .ok (.baload, 1) := by decide +kernel
theorem d_Mo_oneSided_24 : decode b_Mo_oneSided 24 = .ok (.ifCond .eq 33, 3) := by decide +kernel
theorem d_Mo_oneSided_27 : decode b_Mo_oneSided 27 = .ok (.aload_n 0, 1) := by decide +kernel
theorem d_Mo_oneSided_28 : decode b_Mo_oneSided 28 = .ok (.getfield 7, 3) := by decide +kernel
theorem d_Mo_oneSided_31 : decode b_Mo_oneSided 31 = .ok (.iload_n 3, 1) := by decide +kernel
theorem d_Mo_oneSided_32 : decode b_Mo_oneSided 32 = .ok (.baload, 1) := by decide +kernel
theorem d_Mo_oneSided_33 : decode b_Mo_oneSided 33 = .ok (.ifCond .eq 24, 3) := by decide +kernel
theorem d_Mo_oneSided_36 : decode b_Mo_oneSided 36 = .ok (.aload_n 0, 1) := by decide +kernel
theorem d_Mo_oneSided_37 : decode b_Mo_oneSided 37 = .ok (.iload_n 3, 1) := by decide +kernel
theorem d_Mo_oneSided_38 : decode b_Mo_oneSided 38 = .ok (.iload_n 2, 1) := by decide +kernel
theorem d_Mo_oneSided_39 : decode b_Mo_oneSided 39 = .ok (.invokevirtual 171, 3) := by decide +kernel
theorem d_Mo_oneSided_42 : decode b_Mo_oneSided 42 = .ok (.ifCond .eq 15, 3) := by decide +kernel
theorem d_Mo_oneSided_45 : decode b_Mo_oneSided 45 = .ok (.aload_n 0, 1) := by decide +kernel
theorem d_Mo_oneSided_46 : decode b_Mo_oneSided 46 = .ok (.iload_n 2, 1) := by decide +kernel
theorem d_Mo_oneSided_47 : decode b_Mo_oneSided 47 = .ok (.iload_n 3, 1) := by decide +kernel
theorem d_Mo_oneSided_48 : decode b_Mo_oneSided 48 = .ok (.invokevirtual 171, 3) := by decide +kernel
theorem d_Mo_oneSided_51 : decode b_Mo_oneSided 51 = .ok (.ifCond .ne 6, 3) := by decide +kernel
theorem d_Mo_oneSided_54 : decode b_Mo_oneSided 54 = .ok (.iinc 1 1, 3) := by decide +kernel
theorem d_Mo_oneSided_57 : decode b_Mo_oneSided 57 = .ok (.iinc 3 1, 3) := by decide +kernel
theorem d_Mo_oneSided_60 : decode b_Mo_oneSided 60 = .ok (.goto (-48), 3) := by decide +kernel
theorem d_Mo_oneSided_63 : decode b_Mo_oneSided 63 = .ok (.iinc 2 1, 3) := by decide +kernel
theorem d_Mo_oneSided_66 : decode b_Mo_oneSided 66 = .ok (.goto (-62), 3) := by decide +kernel
theorem d_Mo_oneSided_69 : decode b_Mo_oneSided 69 = .ok (.iload_n 1, 1) := by decide +kernel
theorem d_Mo_oneSided_70 : decode b_Mo_oneSided 70 = .ok (.ireturn, 1) := by decide +kernel
theorem d_Mo_isNeighbour_0 : decode b_Mo_isNeighbour 0 = .ok (.bipush 28, 2) := by decide +kernel
theorem d_Mo_isNeighbour_2 : decode b_Mo_isNeighbour 2 = .ok (.iload_n 2, 1) := by decide +kernel
theorem d_Mo_isNeighbour_3 : decode b_Mo_isNeighbour 3 = .ok (.imul, 1) := by decide +kernel
theorem d_Mo_isNeighbour_4 : decode b_Mo_isNeighbour 4 = .ok (.istore_n 3, 1) := by decide +kernel
theorem d_Mo_isNeighbour_5 : decode b_Mo_isNeighbour 5 = .ok (.iload_n 3, 1) := by decide +kernel
theorem d_Mo_isNeighbour_6 : decode b_Mo_isNeighbour 6 = .ok (.bipush 28, 2) := by decide +kernel
theorem d_Mo_isNeighbour_8 : decode b_Mo_isNeighbour 8 = .ok (.iload_n 2, 1) := by decide +kernel
theorem d_Mo_isNeighbour_9 : decode b_Mo_isNeighbour 9 = .ok (.imul, 1) := by decide +kernel
theorem d_Mo_isNeighbour_10 : decode b_Mo_isNeighbour 10 = .ok (.aload_n 0, 1) := by decide +kernel
theorem d_Mo_isNeighbour_11 : decode b_Mo_isNeighbour 11 = .ok (.getfield 32, 3) := by decide +kernel
theorem d_Mo_isNeighbour_14 : decode b_Mo_isNeighbour 14 = .ok (.iconst 4, 1) := by decide +kernel
theorem d_Mo_isNeighbour_15 : decode b_Mo_isNeighbour 15 = .ok (.iload_n 2, 1) := by decide +kernel
theorem d_Mo_isNeighbour_16 : decode b_Mo_isNeighbour 16 = .ok (.imul, 1) := by decide +kernel
theorem d_Mo_isNeighbour_17 : decode b_Mo_isNeighbour 17 = .ok (.iaload, 1) := by decide +kernel
theorem d_Mo_isNeighbour_18 : decode b_Mo_isNeighbour 18 = .ok (.iadd, 1) := by decide +kernel
theorem d_Mo_isNeighbour_19 : decode b_Mo_isNeighbour 19 = .ok (.if_icmp .ge 21, 3) := by decide +kernel
theorem d_Mo_isNeighbour_22 : decode b_Mo_isNeighbour 22 = .ok (.aload_n 0, 1) := by decide +kernel
theorem d_Mo_isNeighbour_23 : decode b_Mo_isNeighbour 23 = .ok (.getfield 29, 3) := by decide +kernel
theorem d_Mo_isNeighbour_26 : decode b_Mo_isNeighbour 26 = .ok (.iload_n 3, 1) := by decide +kernel
theorem d_Mo_isNeighbour_27 : decode b_Mo_isNeighbour 27 = .ok (.iaload, 1) := by decide +kernel
theorem d_Mo_isNeighbour_28 : decode b_Mo_isNeighbour 28 = .ok (.iload_n 1, 1) := by decide +kernel
theorem d_Mo_isNeighbour_29 : decode b_Mo_isNeighbour 29 = .ok (.if_icmp .ne 5, 3) := by decide +kernel
theorem d_Mo_isNeighbour_32 : decode b_Mo_isNeighbour 32 = .ok (.iconst 1, 1) := by decide +kernel
theorem d_Mo_isNeighbour_33 : decode b_Mo_isNeighbour 33 = .ok (.ireturn, 1) := by decide +kernel
theorem d_Mo_isNeighbour_34 : decode b_Mo_isNeighbour 34 = .ok (.iinc 3 1, 3) := by decide +kernel
theorem d_Mo_isNeighbour_37 : decode b_Mo_isNeighbour 37 = .ok (.goto (-32), 3) := by decide +kernel
theorem d_Mo_isNeighbour_40 : decode b_Mo_isNeighbour 40 = .ok (.iconst 0, 1) := by decide +kernel
theorem d_Mo_isNeighbour_41 : decode b_Mo_isNeighbour 41 = .ok (.ireturn, 1) := by decide +kernel
theorem d_Mo_reached_0 : decode b_Mo_reached 0 = .ok (.iconst 0, 1) := by decide +kernel
theorem d_Mo_reached_1 : decode b_Mo_reached 1 = .ok (.istore_n 1, 1) := by decide +kernel
theorem d_Mo_reached_2 : decode b_Mo_reached 2 = .ok (.iload_n 1, 1) := by decide +kernel
theorem d_Mo_reached_3 : decode b_Mo_reached 3 = .ok (.bipush 30, 2) := by decide +kernel
theorem d_Mo_reached_5 : decode b_Mo_reached 5 = .ok (.if_icmp .ge 28, 3) := by decide +kernel
theorem d_Mo_reached_8 : decode b_Mo_reached 8 = .ok (.aload_n 0, 1) := by decide +kernel
theorem d_Mo_reached_9 : decode b_Mo_reached 9 = .ok (.getfield 45, 3) := by decide +kernel
theorem d_Mo_reached_12 : decode b_Mo_reached 12 = .ok (.iload_n 1, 1) := by decide +kernel
theorem d_Mo_reached_13 : decode b_Mo_reached 13 = .ok (.iload_n 1, 1) := by decide +kernel
theorem d_Mo_reached_14 : decode b_Mo_reached 14 = .ok (.aload_n 0, 1) := by decide +kernel
theorem d_Mo_reached_15 : decode b_Mo_reached 15 = .ok (.getfield 35, 3) := by decide +kernel
theorem d_Mo_reached_18 : decode b_Mo_reached 18 = .ok (.if_icmp .ne 7, 3) := by decide +kernel
theorem d_Mo_reached_21 : decode b_Mo_reached 21 = .ok (.iconst 1, 1) := by decide +kernel
theorem d_Mo_reached_22 : decode b_Mo_reached 22 = .ok (.goto 4, 3) := by decide +kernel
theorem d_Mo_reached_25 : decode b_Mo_reached 25 = .ok (.iconst 0, 1) := by decide +kernel
theorem d_Mo_reached_26 : decode b_Mo_reached 26 = .ok (.bastore, 1) := by decide +kernel
theorem d_Mo_reached_27 : decode b_Mo_reached 27 = .ok (.iinc 1 1, 3) := by decide +kernel
theorem d_Mo_reached_30 : decode b_Mo_reached 30 = .ok (.goto (-28), 3) := by decide +kernel
theorem d_Mo_reached_33 : decode b_Mo_reached 33 = .ok (.iconst 0, 1) := by decide +kernel
theorem d_Mo_reached_34 : decode b_Mo_reached 34 = .ok (.istore_n 1, 1) := by decide +kernel
theorem d_Mo_reached_35 : decode b_Mo_reached 35 = .ok (.iload_n 1, 1) := by decide +kernel
theorem d_Mo_reached_36 : decode b_Mo_reached 36 = .ok (.bipush 30, 2) := by decide +kernel
theorem d_Mo_reached_38 : decode b_Mo_reached 38 = .ok (.if_icmp .ge 62, 3) := by decide +kernel
theorem d_Mo_reached_41 : decode b_Mo_reached 41 = .ok (.iconst 0, 1) := by decide +kernel
theorem d_Mo_reached_42 : decode b_Mo_reached 42 = .ok (.istore_n 2, 1) := by decide +kernel
theorem d_Mo_reached_43 : decode b_Mo_reached 43 = .ok (.iload_n 2, 1) := by decide +kernel
theorem d_Mo_reached_44 : decode b_Mo_reached 44 = .ok (.bipush 30, 2) := by decide +kernel
theorem d_Mo_reached_46 : decode b_Mo_reached 46 = .ok (.if_icmp .ge 48, 3) := by decide +kernel
theorem d_Mo_reached_49 : decode b_Mo_reached 49 = .ok (.iconst 0, 1) := by decide +kernel
theorem d_Mo_reached_50 : decode b_Mo_reached 50 = .ok (.istore_n 3, 1) := by decide +kernel
theorem d_Mo_reached_51 : decode b_Mo_reached 51 = .ok (.iload_n 3, 1) := by decide +kernel
theorem d_Mo_reached_52 : decode b_Mo_reached 52 = .ok (.bipush 30, 2) := by decide +kernel
theorem d_Mo_reached_54 : decode b_Mo_reached 54 = .ok (.if_icmp .ge 34, 3) := by decide +kernel
theorem d_Mo_reached_57 : decode b_Mo_reached 57 = .ok (.aload_n 0, 1) := by decide +kernel
theorem d_Mo_reached_58 : decode b_Mo_reached 58 = .ok (.getfield 45, 3) := by decide +kernel
theorem d_Mo_reached_61 : decode b_Mo_reached 61 = .ok (.iload_n 2, 1) := by decide +kernel
theorem d_Mo_reached_62 : decode b_Mo_reached 62 = .ok (.baload, 1) := by decide +kernel
theorem d_Mo_reached_63 : decode b_Mo_reached 63 = .ok (.ifCond .eq 19, 3) := by decide +kernel
theorem d_Mo_reached_66 : decode b_Mo_reached 66 = .ok (.aload_n 0, 1) := by decide +kernel
theorem d_Mo_reached_67 : decode b_Mo_reached 67 = .ok (.iload_n 3, 1) := by decide +kernel
theorem d_Mo_reached_68 : decode b_Mo_reached 68 = .ok (.iload_n 2, 1) := by decide +kernel
theorem d_Mo_reached_69 : decode b_Mo_reached 69 = .ok (.invokevirtual 171, 3) := by decide +kernel
theorem d_Mo_reached_72 : decode b_Mo_reached 72 = .ok (.ifCond .eq 10, 3) := by decide +kernel
theorem d_Mo_reached_75 : decode b_Mo_reached 75 = .ok (.aload_n 0, 1) := by decide +kernel
theorem d_Mo_reached_76 : decode b_Mo_reached 76 = .ok (.getfield 45, 3) := by decide +kernel
theorem d_Mo_reached_79 : decode b_Mo_reached 79 = .ok (.iload_n 3, 1) := by decide +kernel
theorem d_Mo_reached_80 : decode b_Mo_reached 80 = .ok (.iconst 1, 1) := by decide +kernel
theorem d_Mo_reached_81 : decode b_Mo_reached 81 = .ok (.bastore, 1) := by decide +kernel
theorem d_Mo_reached_82 : decode b_Mo_reached 82 = .ok (.iinc 3 1, 3) := by decide +kernel
theorem d_Mo_reached_85 : decode b_Mo_reached 85 = .ok (.goto (-34), 3) := by decide +kernel
theorem d_Mo_reached_88 : decode b_Mo_reached 88 = .ok (.iinc 2 1, 3) := by decide +kernel
theorem d_Mo_reached_91 : decode b_Mo_reached 91 = .ok (.goto (-48), 3) := by decide +kernel
theorem d_Mo_reached_94 : decode b_Mo_reached 94 = .ok (.iinc 1 1, 3) := by decide +kernel
theorem d_Mo_reached_97 : decode b_Mo_reached 97 = .ok (.goto (-62), 3) := by decide +kernel
theorem d_Mo_reached_100 : decode b_Mo_reached 100 = .ok (.aload_n 0, 1) := by decide +kernel
theorem d_Mo_reached_101 : decode b_Mo_reached 101 = .ok (.getfield 45, 3) := by decide +kernel
theorem d_Mo_reached_104 : decode b_Mo_reached 104 = .ok (.invokestatic 86, 3) := by decide +kernel
theorem d_Mo_reached_107 : decode b_Mo_reached 107 = .ok (.ireturn, 1) := by decide +kernel
