theorem dL_call_0 : decode cL_call 0 = .ok (.iload_n 1, 1) := by decide +kernel
theorem dL_call_1 : decode cL_call 1 = .ok (.tableswitch 141 0 9 #[55, 64, 79, 90, 99, 105, 114, 120, 129, 135], 55) := by decide +kernel
theorem dL_call_56 : decode cL_call 56 = .ok (.aload_n 0, 1) := by decide +kernel
theorem dL_call_57 : decode cL_call 57 = .ok (.iload_n 2, 1) := by decide +kernel
theorem dL_call_58 : decode cL_call 58 = .ok (.iload_n 3, 1) := by decide +kernel
theorem dL_call_59 : decode cL_call 59 = .ok (.iload 4, 2) := by decide +kernel
theorem dL_call_61 : decode cL_call 61 = .ok (.invokevirtual 7, 3) := by decide +kernel
theorem dL_call_64 : decode cL_call 64 = .ok (.ireturn, 1) := by decide +kernel
theorem dL_call_65 : decode cL_call 65 = .ok (.aload_n 0, 1) := by decide +kernel
theorem dL_call_66 : decode cL_call 66 = .ok (.iload_n 2, 1) := by decide +kernel
theorem dL_call_67 : decode cL_call 67 = .ok (.iload_n 3, 1) := by decide +kernel
theorem dL_call_68 : decode cL_call 68 = .ok (.invokevirtual 13, 3) := by decide +kernel
theorem dL_call_71 : decode cL_call 71 = .ok (.ifCond .eq 7, 3) := by decide +kernel
theorem dL_call_74 : decode cL_call 74 = .ok (.iconst 1, 1) := by decide +kernel
theorem dL_call_75 : decode cL_call 75 = .ok (.goto 4, 3) := by decide +kernel
theorem dL_call_78 : decode cL_call 78 = .ok (.iconst 0, 1) := by decide +kernel
theorem dL_call_79 : decode cL_call 79 = .ok (.ireturn, 1) := by decide +kernel
theorem dL_call_80 : decode cL_call 80 = .ok (.aload_n 0, 1) := by decide +kernel
theorem dL_call_81 : decode cL_call 81 = .ok (.iload_n 2, 1) := by decide +kernel
theorem dL_call_82 : decode cL_call 82 = .ok (.iload_n 3, 1) := by decide +kernel
theorem dL_call_83 : decode cL_call 83 = .ok (.iload 4, 2) := by decide +kernel
theorem dL_call_85 : decode cL_call 85 = .ok (.iload 5, 2) := by decide +kernel
theorem dL_call_87 : decode cL_call 87 = .ok (.invokevirtual 17, 3) := by decide +kernel
theorem dL_call_90 : decode cL_call 90 = .ok (.ireturn, 1) := by decide +kernel
theorem dL_call_91 : decode cL_call 91 = .ok (.aload_n 0, 1) := by decide +kernel
theorem dL_call_92 : decode cL_call 92 = .ok (.iload_n 2, 1) := by decide +kernel
theorem dL_call_93 : decode cL_call 93 = .ok (.iload_n 3, 1) := by decide +kernel
theorem dL_call_94 : decode cL_call 94 = .ok (.iload 4, 2) := by decide +kernel
theorem dL_call_96 : decode cL_call 96 = .ok (.invokestatic 21, 3) := by decide +kernel
theorem dL_call_99 : decode cL_call 99 = .ok (.ireturn, 1) := by decide +kernel
theorem dL_call_100 : decode cL_call 100 = .ok (.aload_n 0, 1) := by decide +kernel
theorem dL_call_101 : decode cL_call 101 = .ok (.iload_n 2, 1) := by decide +kernel
theorem dL_call_102 : decode cL_call 102 = .ok (.invokevirtual 27, 3) := by decide +kernel
theorem dL_call_105 : decode cL_call 105 = .ok (.ireturn, 1) := by decide +kernel
theorem dL_call_106 : decode cL_call 106 = .ok (.aload_n 0, 1) := by decide +kernel
theorem dL_call_107 : decode cL_call 107 = .ok (.iload_n 2, 1) := by decide +kernel
theorem dL_call_108 : decode cL_call 108 = .ok (.iload_n 3, 1) := by decide +kernel
theorem dL_call_109 : decode cL_call 109 = .ok (.iload 4, 2) := by decide +kernel
theorem dL_call_111 : decode cL_call 111 = .ok (.invokevirtual 31, 3) := by decide +kernel
theorem dL_call_114 : decode cL_call 114 = .ok (.ireturn, 1) := by decide +kernel
theorem dL_call_115 : decode cL_call 115 = .ok (.aload_n 0, 1) := by decide +kernel
theorem dL_call_116 : decode cL_call 116 = .ok (.iload_n 2, 1) := by decide +kernel
theorem dL_call_117 : decode cL_call 117 = .ok (.invokevirtual 34, 3) := by decide +kernel
theorem dL_call_120 : decode cL_call 120 = .ok (.ireturn, 1) := by decide +kernel
theorem dL_call_121 : decode cL_call 121 = .ok (.aload_n 0, 1) := by decide +kernel
theorem dL_call_122 : decode cL_call 122 = .ok (.iload_n 2, 1) := by decide +kernel
theorem dL_call_123 : decode cL_call 123 = .ok (.iload_n 3, 1) := by decide +kernel
theorem dL_call_124 : decode cL_call 124 = .ok (.iload 4, 2) := by decide +kernel
theorem dL_call_126 : decode cL_call 126 = .ok (.invokevirtual 37, 3) := by decide +kernel
theorem dL_call_129 : decode cL_call 129 = .ok (.ireturn, 1) := by decide +kernel
theorem dL_call_130 : decode cL_call 130 = .ok (.aload_n 0, 1) := by decide +kernel
theorem dL_call_131 : decode cL_call 131 = .ok (.iload_n 2, 1) := by decide +kernel
theorem dL_call_132 : decode cL_call 132 = .ok (.invokevirtual 40, 3) := by decide +kernel
theorem dL_call_135 : decode cL_call 135 = .ok (.ireturn, 1) := by decide +kernel
theorem dL_call_136 : decode cL_call 136 = .ok (.aload_n 0, 1) := by decide +kernel
theorem dL_call_137 : decode cL_call 137 = .ok (.iload_n 2, 1) := by decide +kernel
theorem dL_call_138 : decode cL_call 138 = .ok (.invokevirtual 43, 3) := by decide +kernel
theorem dL_call_141 : decode cL_call 141 = .ok (.ireturn, 1) := by decide +kernel
theorem dL_call_142 : decode cL_call 142 = .ok (.aload_n 0, 1) := by decide +kernel
theorem dL_call_143 : decode cL_call 143 = .ok (.iload_n 2, 1) := by decide +kernel
theorem dL_call_144 : decode cL_call 144 = .ok (.iload_n 3, 1) := by decide +kernel
theorem dL_call_145 : decode cL_call 145 = .ok (.invokevirtual 46, 3) := by decide +kernel
theorem dL_call_148 : decode cL_call 148 = .ok (.ireturn, 1) := by decide +kernel
theorem dL_leases_0 : decode cL_leases 0 = .ok (.aload_n 0, 1) := by decide +kernel
theorem dL_leases_1 : decode cL_leases 1 = .ok (.iload_n 1, 1) := by decide +kernel
theorem dL_leases_2 : decode cL_leases 2 = .ok (.iload_n 2, 1) := by decide +kernel
theorem dL_leases_3 : decode cL_leases 3 = .ok (.iload_n 3, 1) := by decide +kernel
theorem dL_leases_4 : decode cL_leases 4 = .ok (.invokevirtual 50, 3) := by decide +kernel
theorem dL_leases_7 : decode cL_leases 7 = .ok (.iconst 0, 1) := by decide +kernel
theorem dL_leases_8 : decode cL_leases 8 = .ok (.ireturn, 1) := by decide +kernel
theorem dL_ask_0 : decode cL_ask 0 = .ok (.aload_n 0, 1) := by decide +kernel
theorem dL_ask_1 : decode cL_ask 1 = .ok (.iload_n 1, 1) := by decide +kernel
theorem dL_ask_2 : decode cL_ask 2 = .ok (.iload_n 2, 1) := by decide +kernel
theorem dL_ask_3 : decode cL_ask 3 = .ok (.iload_n 3, 1) := by decide +kernel
theorem dL_ask_4 : decode cL_ask 4 = .ok (.iload 4, 2) := by decide +kernel
theorem dL_ask_6 : decode cL_ask 6 = .ok (.iload 5, 2) := by decide +kernel
theorem dL_ask_8 : decode cL_ask 8 = .ok (.invokestatic 54, 3) := by decide +kernel
theorem dL_ask_11 : decode cL_ask 11 = .ok (.ireturn, 1) := by decide +kernel
theorem dL_ask_12 : decode cL_ask 12 = .ok (.astore 6, 2) := by decide +kernel
theorem dL_ask_14 : decode cL_ask 14 = .ok (.sipush (-1011), 3) := by decide +kernel
theorem dL_ask_17 : decode cL_ask 17 = .ok (.ireturn, 1) := by decide +kernel
theorem dL_ask_18 : decode cL_ask 18 = .ok (.astore 6, 2) := by decide +kernel
theorem dL_ask_20 : decode cL_ask 20 = .ok (.sipush (-1012), 3) := by decide +kernel
theorem dL_ask_23 : decode cL_ask 23 = .ok (.ireturn, 1) := by decide +kernel
theorem dL_ask_24 : decode cL_ask 24 = .ok (.astore 6, 2) := by decide +kernel
theorem dL_ask_26 : decode cL_ask 26 = .ok (.sipush (-1013), 3) := by decide +kernel
theorem dL_ask_29 : decode cL_ask 29 = .ok (.ireturn, 1) := by decide +kernel
theorem dL_draw_0 : decode cL_draw 0 = .ok (.iload_n 1, 1) := by decide +kernel
theorem dL_draw_1 : decode cL_draw 1 = .ok (.aload_n 0, 1) := by decide +kernel
theorem dL_draw_2 : decode cL_draw 2 = .ok (.arraylength, 1) := by decide +kernel
theorem dL_draw_3 : decode cL_draw 3 = .ok (.if_icmp .ge 9, 3) := by decide +kernel
theorem dL_draw_6 : decode cL_draw 6 = .ok (.aload_n 0, 1) := by decide +kernel
theorem dL_draw_7 : decode cL_draw 7 = .ok (.iload_n 1, 1) := by decide +kernel
theorem dL_draw_8 : decode cL_draw 8 = .ok (.iaload, 1) := by decide +kernel
theorem dL_draw_9 : decode cL_draw 9 = .ok (.goto 18, 3) := by decide +kernel
theorem dL_draw_12 : decode cL_draw 12 = .ok (.ldc 64, 2) := by decide +kernel
theorem dL_draw_14 : decode cL_draw 14 = .ok (.iload_n 1, 1) := by decide +kernel
theorem dL_draw_15 : decode cL_draw 15 = .ok (.imul, 1) := by decide +kernel
theorem dL_draw_16 : decode cL_draw 16 = .ok (.iload_n 1, 1) := by decide +kernel
theorem dL_draw_17 : decode cL_draw 17 = .ok (.imul, 1) := by decide +kernel
theorem dL_draw_18 : decode cL_draw 18 = .ok (.ldc 65, 2) := by decide +kernel
theorem dL_draw_20 : decode cL_draw 20 = .ok (.iload_n 1, 1) := by decide +kernel
theorem dL_draw_21 : decode cL_draw 21 = .ok (.imul, 1) := by decide +kernel
theorem dL_draw_22 : decode cL_draw 22 = .ok (.iadd, 1) := by decide +kernel
theorem dL_draw_23 : decode cL_draw 23 = .ok (.sipush 341, 3) := by decide +kernel
theorem dL_draw_26 : decode cL_draw 26 = .ok (.iadd, 1) := by decide +kernel
theorem dL_draw_27 : decode cL_draw 27 = .ok (.ireturn, 1) := by decide +kernel
theorem dL_arePlaces_0 : decode cL_arePlaces 0 = .ok (.iconst 0, 1) := by decide +kernel
theorem dL_arePlaces_1 : decode cL_arePlaces 1 = .ok (.istore 4, 2) := by decide +kernel
theorem dL_arePlaces_3 : decode cL_arePlaces 3 = .ok (.iconst 1, 1) := by decide +kernel
theorem dL_arePlaces_4 : decode cL_arePlaces 4 = .ok (.istore 5, 2) := by decide +kernel
theorem dL_arePlaces_6 : decode cL_arePlaces 6 = .ok (.iconst 0, 1) := by decide +kernel
theorem dL_arePlaces_7 : decode cL_arePlaces 7 = .ok (.istore 6, 2) := by decide +kernel
theorem dL_arePlaces_9 : decode cL_arePlaces 9 = .ok (.iload 6, 2) := by decide +kernel
theorem dL_arePlaces_11 : decode cL_arePlaces 11 = .ok (.iload_n 1, 1) := by decide +kernel
theorem dL_arePlaces_12 : decode cL_arePlaces 12 = .ok (.if_icmp .ge 73, 3) := by decide +kernel
theorem dL_arePlaces_15 : decode cL_arePlaces 15 = .ok (.iload 5, 2) := by decide +kernel
theorem dL_arePlaces_17 : decode cL_arePlaces 17 = .ok (.ifCond .eq 68, 3) := by decide +kernel
theorem dL_arePlaces_20 : decode cL_arePlaces 20 = .ok (.aload_n 0, 1) := by decide +kernel
theorem dL_arePlaces_21 : decode cL_arePlaces 21 = .ok (.iload 6, 2) := by decide +kernel
theorem dL_arePlaces_23 : decode cL_arePlaces 23 = .ok (.iload_n 2, 1) := by decide +kernel
theorem dL_arePlaces_24 : decode cL_arePlaces 24 = .ok (.invokevirtual 66, 3) := by decide +kernel
theorem dL_arePlaces_27 : decode cL_arePlaces 27 = .ok (.istore 7, 2) := by decide +kernel
theorem dL_arePlaces_29 : decode cL_arePlaces 29 = .ok (.iload 4, 2) := by decide +kernel
theorem dL_arePlaces_31 : decode cL_arePlaces 31 = .ok (.iload 7, 2) := by decide +kernel
theorem dL_arePlaces_33 : decode cL_arePlaces 33 = .ok (.bipush 6, 2) := by decide +kernel
theorem dL_arePlaces_35 : decode cL_arePlaces 35 = .ok (.if_icmp .ge 7, 3) := by decide +kernel
theorem dL_arePlaces_38 : decode cL_arePlaces 38 = .ok (.iconst 1, 1) := by decide +kernel
theorem dL_arePlaces_39 : decode cL_arePlaces 39 = .ok (.goto 4, 3) := by decide +kernel
theorem dL_arePlaces_42 : decode cL_arePlaces 42 = .ok (.iconst 0, 1) := by decide +kernel
theorem dL_arePlaces_43 : decode cL_arePlaces 43 = .ok (.iadd, 1) := by decide +kernel
theorem dL_arePlaces_44 : decode cL_arePlaces 44 = .ok (.istore 4, 2) := by decide +kernel
theorem dL_arePlaces_46 : decode cL_arePlaces 46 = .ok (.iload 7, 2) := by decide +kernel
theorem dL_arePlaces_48 : decode cL_arePlaces 48 = .ok (.ifCond .lt 28, 3) := by decide +kernel
theorem dL_arePlaces_51 : decode cL_arePlaces 51 = .ok (.iload 7, 2) := by decide +kernel
theorem dL_arePlaces_53 : decode cL_arePlaces 53 = .ok (.bipush 6, 2) := by decide +kernel
theorem dL_arePlaces_55 : decode cL_arePlaces 55 = .ok (.if_icmp .lt 17, 3) := by decide +kernel
theorem dL_arePlaces_58 : decode cL_arePlaces 58 = .ok (.iload 7, 2) := by decide +kernel
theorem dL_arePlaces_60 : decode cL_arePlaces 60 = .ok (.bipush 9, 2) := by decide +kernel
theorem dL_arePlaces_62 : decode cL_arePlaces 62 = .ok (.if_icmp .le 14, 3) := by decide +kernel
theorem dL_arePlaces_65 : decode cL_arePlaces 65 = .ok (.iload 7, 2) := by decide +kernel
theorem dL_arePlaces_67 : decode cL_arePlaces 67 = .ok (.bipush 13, 2) := by decide +kernel
theorem dL_arePlaces_69 : decode cL_arePlaces 69 = .ok (.if_icmp .ge 7, 3) := by decide +kernel
theorem dL_arePlaces_72 : decode cL_arePlaces 72 = .ok (.iconst 1, 1) := by decide +kernel
theorem dL_arePlaces_73 : decode cL_arePlaces 73 = .ok (.goto 4, 3) := by decide +kernel
theorem dL_arePlaces_76 : decode cL_arePlaces 76 = .ok (.iconst 0, 1) := by decide +kernel
theorem dL_arePlaces_77 : decode cL_arePlaces 77 = .ok (.istore 5, 2) := by decide +kernel
theorem dL_arePlaces_79 : decode cL_arePlaces 79 = .ok (.iinc 6 1, 3) := by decide +kernel
theorem dL_arePlaces_82 : decode cL_arePlaces 82 = .ok (.goto (-73), 3) := by decide +kernel
theorem dL_arePlaces_85 : decode cL_arePlaces 85 = .ok (.iconst 0, 1) := by decide +kernel
theorem dL_arePlaces_86 : decode cL_arePlaces 86 = .ok (.istore 6, 2) := by decide +kernel
theorem dL_arePlaces_88 : decode cL_arePlaces 88 = .ok (.iconst 0, 1) := by decide +kernel
theorem dL_arePlaces_89 : decode cL_arePlaces 89 = .ok (.istore 7, 2) := by decide +kernel
theorem dL_arePlaces_91 : decode cL_arePlaces 91 = .ok (.iload 7, 2) := by decide +kernel
theorem dL_arePlaces_93 : decode cL_arePlaces 93 = .ok (.bipush 6, 2) := by decide +kernel
theorem dL_arePlaces_95 : decode cL_arePlaces 95 = .ok (.if_icmp .ge 69, 3) := by decide +kernel
theorem dL_arePlaces_98 : decode cL_arePlaces 98 = .ok (.iload 5, 2) := by decide +kernel
theorem dL_arePlaces_100 : decode cL_arePlaces 100 = .ok (.ifCond .eq 64, 3) := by decide +kernel
theorem dL_arePlaces_103 : decode cL_arePlaces 103 = .ok (.aload_n 0, 1) := by decide +kernel
theorem dL_arePlaces_104 : decode cL_arePlaces 104 = .ok (.iload 7, 2) := by decide +kernel
theorem dL_arePlaces_106 : decode cL_arePlaces 106 = .ok (.iconst (-1), 1) := by decide +kernel
theorem dL_arePlaces_107 : decode cL_arePlaces 107 = .ok (.iload_n 2, 1) := by decide +kernel
theorem dL_arePlaces_108 : decode cL_arePlaces 108 = .ok (.invokevirtual 69, 3) := by decide +kernel
theorem dL_arePlaces_111 : decode cL_arePlaces 111 = .ok (.istore 8, 2) := by decide +kernel
theorem dL_arePlaces_113 : decode cL_arePlaces 113 = .ok (.iload 6, 2) := by decide +kernel
theorem dL_arePlaces_115 : decode cL_arePlaces 115 = .ok (.iload 8, 2) := by decide +kernel
theorem dL_arePlaces_117 : decode cL_arePlaces 117 = .ok (.iadd, 1) := by decide +kernel
theorem dL_arePlaces_118 : decode cL_arePlaces 118 = .ok (.istore 6, 2) := by decide +kernel
theorem dL_arePlaces_120 : decode cL_arePlaces 120 = .ok (.iload 8, 2) := by decide +kernel
theorem dL_arePlaces_122 : decode cL_arePlaces 122 = .ok (.aload_n 0, 1) := by decide +kernel
theorem dL_arePlaces_123 : decode cL_arePlaces 123 = .ok (.iload 7, 2) := by decide +kernel
theorem dL_arePlaces_125 : decode cL_arePlaces 125 = .ok (.iconst 0, 1) := by decide +kernel
theorem dL_arePlaces_126 : decode cL_arePlaces 126 = .ok (.iload_n 2, 1) := by decide +kernel
theorem dL_arePlaces_127 : decode cL_arePlaces 127 = .ok (.invokevirtual 69, 3) := by decide +kernel
theorem dL_arePlaces_130 : decode cL_arePlaces 130 = .ok (.aload_n 0, 1) := by decide +kernel
theorem dL_arePlaces_131 : decode cL_arePlaces 131 = .ok (.iload 7, 2) := by decide +kernel
theorem dL_arePlaces_133 : decode cL_arePlaces 133 = .ok (.iconst 1, 1) := by decide +kernel
theorem dL_arePlaces_134 : decode cL_arePlaces 134 = .ok (.iload_n 2, 1) := by decide +kernel
theorem dL_arePlaces_135 : decode cL_arePlaces 135 = .ok (.invokevirtual 69, 3) := by decide +kernel
theorem dL_arePlaces_138 : decode cL_arePlaces 138 = .ok (.iadd, 1) := by decide +kernel
theorem dL_arePlaces_139 : decode cL_arePlaces 139 = .ok (.aload_n 0, 1) := by decide +kernel
theorem dL_arePlaces_140 : decode cL_arePlaces 140 = .ok (.iload 7, 2) := by decide +kernel
theorem dL_arePlaces_142 : decode cL_arePlaces 142 = .ok (.iconst 2, 1) := by decide +kernel
theorem dL_arePlaces_143 : decode cL_arePlaces 143 = .ok (.iload_n 2, 1) := by decide +kernel
theorem dL_arePlaces_144 : decode cL_arePlaces 144 = .ok (.invokevirtual 69, 3) := by decide +kernel
theorem dL_arePlaces_147 : decode cL_arePlaces 147 = .ok (.iadd, 1) := by decide +kernel
theorem dL_arePlaces_148 : decode cL_arePlaces 148 = .ok (.if_icmp .ne 7, 3) := by decide +kernel
theorem dL_arePlaces_151 : decode cL_arePlaces 151 = .ok (.iconst 1, 1) := by decide +kernel
theorem dL_arePlaces_152 : decode cL_arePlaces 152 = .ok (.goto 4, 3) := by decide +kernel
theorem dL_arePlaces_155 : decode cL_arePlaces 155 = .ok (.iconst 0, 1) := by decide +kernel
theorem dL_arePlaces_156 : decode cL_arePlaces 156 = .ok (.istore 5, 2) := by decide +kernel
theorem dL_arePlaces_158 : decode cL_arePlaces 158 = .ok (.iinc 7 1, 3) := by decide +kernel
theorem dL_arePlaces_161 : decode cL_arePlaces 161 = .ok (.goto (-70), 3) := by decide +kernel
theorem dL_arePlaces_164 : decode cL_arePlaces 164 = .ok (.iconst 0, 1) := by decide +kernel
theorem dL_arePlaces_165 : decode cL_arePlaces 165 = .ok (.istore 7, 2) := by decide +kernel
theorem dL_arePlaces_167 : decode cL_arePlaces 167 = .ok (.iconst 0, 1) := by decide +kernel
theorem dL_arePlaces_168 : decode cL_arePlaces 168 = .ok (.istore 8, 2) := by decide +kernel
theorem dL_arePlaces_170 : decode cL_arePlaces 170 = .ok (.iload 8, 2) := by decide +kernel
theorem dL_arePlaces_172 : decode cL_arePlaces 172 = .ok (.bipush 13, 2) := by decide +kernel
theorem dL_arePlaces_174 : decode cL_arePlaces 174 = .ok (.if_icmp .ge 49, 3) := by decide +kernel
theorem dL_arePlaces_177 : decode cL_arePlaces 177 = .ok (.iload 5, 2) := by decide +kernel
theorem dL_arePlaces_179 : decode cL_arePlaces 179 = .ok (.ifCond .eq 44, 3) := by decide +kernel
theorem dL_arePlaces_182 : decode cL_arePlaces 182 = .ok (.iload 7, 2) := by decide +kernel
theorem dL_arePlaces_184 : decode cL_arePlaces 184 = .ok (.iload 8, 2) := by decide +kernel
theorem dL_arePlaces_186 : decode cL_arePlaces 186 = .ok (.bipush 6, 2) := by decide +kernel
theorem dL_arePlaces_188 : decode cL_arePlaces 188 = .ok (.if_icmp .lt 10, 3) := by decide +kernel
theorem dL_arePlaces_191 : decode cL_arePlaces 191 = .ok (.iload 8, 2) := by decide +kernel
theorem dL_arePlaces_193 : decode cL_arePlaces 193 = .ok (.bipush 9, 2) := by decide +kernel
theorem dL_arePlaces_195 : decode cL_arePlaces 195 = .ok (.if_icmp .le 18, 3) := by decide +kernel
theorem dL_arePlaces_198 : decode cL_arePlaces 198 = .ok (.aload_n 0, 1) := by decide +kernel
theorem dL_arePlaces_199 : decode cL_arePlaces 199 = .ok (.iload_n 3, 1) := by decide +kernel
theorem dL_arePlaces_200 : decode cL_arePlaces 200 = .ok (.iload_n 2, 1) := by decide +kernel
theorem dL_arePlaces_201 : decode cL_arePlaces 201 = .ok (.iload_n 2, 1) := by decide +kernel
theorem dL_arePlaces_202 : decode cL_arePlaces 202 = .ok (.bipush 7, 2) := by decide +kernel
theorem dL_arePlaces_204 : decode cL_arePlaces 204 = .ok (.iadd, 1) := by decide +kernel
theorem dL_arePlaces_205 : decode cL_arePlaces 205 = .ok (.iload 8, 2) := by decide +kernel
theorem dL_arePlaces_207 : decode cL_arePlaces 207 = .ok (.invokevirtual 72, 3) := by decide +kernel
theorem dL_arePlaces_210 : decode cL_arePlaces 210 = .ok (.goto 4, 3) := by decide +kernel
theorem dL_arePlaces_213 : decode cL_arePlaces 213 = .ok (.iconst 0, 1) := by decide +kernel
theorem dL_arePlaces_214 : decode cL_arePlaces 214 = .ok (.iadd, 1) := by decide +kernel
theorem dL_arePlaces_215 : decode cL_arePlaces 215 = .ok (.istore 7, 2) := by decide +kernel
theorem dL_arePlaces_217 : decode cL_arePlaces 217 = .ok (.iinc 8 1, 3) := by decide +kernel
theorem dL_arePlaces_220 : decode cL_arePlaces 220 = .ok (.goto (-50), 3) := by decide +kernel
theorem dL_arePlaces_223 : decode cL_arePlaces 223 = .ok (.iload 5, 2) := by decide +kernel
theorem dL_arePlaces_225 : decode cL_arePlaces 225 = .ok (.ifCond .eq 21, 3) := by decide +kernel
theorem dL_arePlaces_228 : decode cL_arePlaces 228 = .ok (.iload 6, 2) := by decide +kernel
theorem dL_arePlaces_230 : decode cL_arePlaces 230 = .ok (.iload 4, 2) := by decide +kernel
theorem dL_arePlaces_232 : decode cL_arePlaces 232 = .ok (.if_icmp .ne 14, 3) := by decide +kernel
theorem dL_arePlaces_235 : decode cL_arePlaces 235 = .ok (.iload 7, 2) := by decide +kernel
theorem dL_arePlaces_237 : decode cL_arePlaces 237 = .ok (.bipush 8, 2) := by decide +kernel
theorem dL_arePlaces_239 : decode cL_arePlaces 239 = .ok (.if_icmp .ne 7, 3) := by decide +kernel
theorem dL_arePlaces_242 : decode cL_arePlaces 242 = .ok (.iconst 1, 1) := by decide +kernel
theorem dL_arePlaces_243 : decode cL_arePlaces 243 = .ok (.goto 4, 3) := by decide +kernel
theorem dL_arePlaces_246 : decode cL_arePlaces 246 = .ok (.iconst 0, 1) := by decide +kernel
theorem dL_arePlaces_247 : decode cL_arePlaces 247 = .ok (.ireturn, 1) := by decide +kernel
theorem dL_areBookings_0 : decode cL_areBookings 0 = .ok (.bipush 20, 2) := by decide +kernel
theorem dL_areBookings_2 : decode cL_areBookings 2 = .ok (.newarray .int, 2) := by decide +kernel
theorem dL_areBookings_4 : decode cL_areBookings 4 = .ok (.astore 4, 2) := by decide +kernel
theorem dL_areBookings_6 : decode cL_areBookings 6 = .ok (.iconst 1, 1) := by decide +kernel
theorem dL_areBookings_7 : decode cL_areBookings 7 = .ok (.istore 5, 2) := by decide +kernel
theorem dL_areBookings_9 : decode cL_areBookings 9 = .ok (.iconst 0, 1) := by decide +kernel
theorem dL_areBookings_10 : decode cL_areBookings 10 = .ok (.istore 6, 2) := by decide +kernel
theorem dL_areBookings_12 : decode cL_areBookings 12 = .ok (.iload 6, 2) := by decide +kernel
theorem dL_areBookings_14 : decode cL_areBookings 14 = .ok (.iload_n 1, 1) := by decide +kernel
theorem dL_areBookings_15 : decode cL_areBookings 15 = .ok (.if_icmp .ge 78, 3) := by decide +kernel
theorem dL_areBookings_18 : decode cL_areBookings 18 = .ok (.iload 5, 2) := by decide +kernel
theorem dL_areBookings_20 : decode cL_areBookings 20 = .ok (.ifCond .eq 73, 3) := by decide +kernel
theorem dL_areBookings_23 : decode cL_areBookings 23 = .ok (.aload_n 0, 1) := by decide +kernel
theorem dL_areBookings_24 : decode cL_areBookings 24 = .ok (.iload 6, 2) := by decide +kernel
theorem dL_areBookings_26 : decode cL_areBookings 26 = .ok (.iconst 4, 1) := by decide +kernel
theorem dL_areBookings_27 : decode cL_areBookings 27 = .ok (.invokevirtual 75, 3) := by decide +kernel
theorem dL_areBookings_30 : decode cL_areBookings 30 = .ok (.istore 7, 2) := by decide +kernel
theorem dL_areBookings_32 : decode cL_areBookings 32 = .ok (.iload 7, 2) := by decide +kernel
theorem dL_areBookings_34 : decode cL_areBookings 34 = .ok (.iconst (-1), 1) := by decide +kernel
theorem dL_areBookings_35 : decode cL_areBookings 35 = .ok (.if_icmp .lt 35, 3) := by decide +kernel
theorem dL_areBookings_38 : decode cL_areBookings 38 = .ok (.iload 7, 2) := by decide +kernel
theorem dL_areBookings_40 : decode cL_areBookings 40 = .ok (.iload_n 3, 1) := by decide +kernel
theorem dL_areBookings_41 : decode cL_areBookings 41 = .ok (.if_icmp .ge 29, 3) := by decide +kernel
theorem dL_areBookings_44 : decode cL_areBookings 44 = .ok (.iload 7, 2) := by decide +kernel
theorem dL_areBookings_46 : decode cL_areBookings 46 = .ok (.ifCond .lt 20, 3) := by decide +kernel
theorem dL_areBookings_49 : decode cL_areBookings 49 = .ok (.aload_n 0, 1) := by decide +kernel
theorem dL_areBookings_50 : decode cL_areBookings 50 = .ok (.iload 6, 2) := by decide +kernel
theorem dL_areBookings_52 : decode cL_areBookings 52 = .ok (.iconst 2, 1) := by decide +kernel
theorem dL_areBookings_53 : decode cL_areBookings 53 = .ok (.invokevirtual 75, 3) := by decide +kernel
theorem dL_areBookings_56 : decode cL_areBookings 56 = .ok (.ifCond .ne 14, 3) := by decide +kernel
theorem dL_areBookings_59 : decode cL_areBookings 59 = .ok (.aload_n 2, 1) := by decide +kernel
theorem dL_areBookings_60 : decode cL_areBookings 60 = .ok (.iload 7, 2) := by decide +kernel
theorem dL_areBookings_62 : decode cL_areBookings 62 = .ok (.iaload, 1) := by decide +kernel
theorem dL_areBookings_63 : decode cL_areBookings 63 = .ok (.ifCond .le 7, 3) := by decide +kernel
theorem dL_areBookings_66 : decode cL_areBookings 66 = .ok (.iconst 1, 1) := by decide +kernel
theorem dL_areBookings_67 : decode cL_areBookings 67 = .ok (.goto 4, 3) := by decide +kernel
theorem dL_areBookings_70 : decode cL_areBookings 70 = .ok (.iconst 0, 1) := by decide +kernel
theorem dL_areBookings_71 : decode cL_areBookings 71 = .ok (.istore 5, 2) := by decide +kernel
theorem dL_areBookings_73 : decode cL_areBookings 73 = .ok (.iload 7, 2) := by decide +kernel
theorem dL_areBookings_75 : decode cL_areBookings 75 = .ok (.ifCond .lt 12, 3) := by decide +kernel
theorem dL_areBookings_78 : decode cL_areBookings 78 = .ok (.aload 4, 2) := by decide +kernel
theorem dL_areBookings_80 : decode cL_areBookings 80 = .ok (.iload 7, 2) := by decide +kernel
theorem dL_areBookings_82 : decode cL_areBookings 82 = .ok (.dup2, 1) := by decide +kernel
theorem dL_areBookings_83 : decode cL_areBookings 83 = .ok (.iaload, 1) := by decide +kernel
theorem dL_areBookings_84 : decode cL_areBookings 84 = .ok (.iconst 1, 1) := by decide +kernel
theorem dL_areBookings_85 : decode cL_areBookings 85 = .ok (.iadd, 1) := by decide +kernel
theorem dL_areBookings_86 : decode cL_areBookings 86 = .ok (.iastore, 1) := by decide +kernel
theorem dL_areBookings_87 : decode cL_areBookings 87 = .ok (.iinc 6 1, 3) := by decide +kernel
theorem dL_areBookings_90 : decode cL_areBookings 90 = .ok (.goto (-78), 3) := by decide +kernel
theorem dL_areBookings_93 : decode cL_areBookings 93 = .ok (.iconst 0, 1) := by decide +kernel
theorem dL_areBookings_94 : decode cL_areBookings 94 = .ok (.istore 6, 2) := by decide +kernel
theorem dL_areBookings_96 : decode cL_areBookings 96 = .ok (.iload 6, 2) := by decide +kernel
theorem dL_areBookings_98 : decode cL_areBookings 98 = .ok (.iload_n 3, 1) := by decide +kernel
theorem dL_areBookings_99 : decode cL_areBookings 99 = .ok (.if_icmp .ge 49, 3) := by decide +kernel
theorem dL_areBookings_102 : decode cL_areBookings 102 = .ok (.iload 5, 2) := by decide +kernel
theorem dL_areBookings_104 : decode cL_areBookings 104 = .ok (.ifCond .eq 44, 3) := by decide +kernel
theorem dL_areBookings_107 : decode cL_areBookings 107 = .ok (.aload_n 0, 1) := by decide +kernel
theorem dL_areBookings_108 : decode cL_areBookings 108 = .ok (.iload 6, 2) := by decide +kernel
theorem dL_areBookings_110 : decode cL_areBookings 110 = .ok (.invokevirtual 78, 3) := by decide +kernel
theorem dL_areBookings_113 : decode cL_areBookings 113 = .ok (.aload_n 2, 1) := by decide +kernel
theorem dL_areBookings_114 : decode cL_areBookings 114 = .ok (.iload 6, 2) := by decide +kernel
theorem dL_areBookings_116 : decode cL_areBookings 116 = .ok (.iaload, 1) := by decide +kernel
theorem dL_areBookings_117 : decode cL_areBookings 117 = .ok (.aload 4, 2) := by decide +kernel
theorem dL_areBookings_119 : decode cL_areBookings 119 = .ok (.iload 6, 2) := by decide +kernel
theorem dL_areBookings_121 : decode cL_areBookings 121 = .ok (.iaload, 1) := by decide +kernel
theorem dL_areBookings_122 : decode cL_areBookings 122 = .ok (.isub, 1) := by decide +kernel
theorem dL_areBookings_123 : decode cL_areBookings 123 = .ok (.if_icmp .ne 16, 3) := by decide +kernel
theorem dL_areBookings_126 : decode cL_areBookings 126 = .ok (.aload_n 0, 1) := by decide +kernel
theorem dL_areBookings_127 : decode cL_areBookings 127 = .ok (.iload 6, 2) := by decide +kernel
theorem dL_areBookings_129 : decode cL_areBookings 129 = .ok (.invokevirtual 78, 3) := by decide +kernel
theorem dL_areBookings_132 : decode cL_areBookings 132 = .ok (.ifCond .lt 7, 3) := by decide +kernel
theorem dL_areBookings_135 : decode cL_areBookings 135 = .ok (.iconst 1, 1) := by decide +kernel
theorem dL_areBookings_136 : decode cL_areBookings 136 = .ok (.goto 4, 3) := by decide +kernel
theorem dL_areBookings_139 : decode cL_areBookings 139 = .ok (.iconst 0, 1) := by decide +kernel
theorem dL_areBookings_140 : decode cL_areBookings 140 = .ok (.istore 5, 2) := by decide +kernel
theorem dL_areBookings_142 : decode cL_areBookings 142 = .ok (.iinc 6 1, 3) := by decide +kernel
theorem dL_areBookings_145 : decode cL_areBookings 145 = .ok (.goto (-49), 3) := by decide +kernel
theorem dL_areBookings_148 : decode cL_areBookings 148 = .ok (.iload 5, 2) := by decide +kernel
theorem dL_areBookings_150 : decode cL_areBookings 150 = .ok (.ireturn, 1) := by decide +kernel
theorem dL_arePlans_0 : decode cL_arePlans 0 = .ok (.aload_n 0, 1) := by decide +kernel
theorem dL_arePlans_1 : decode cL_arePlans 1 = .ok (.bipush 9, 2) := by decide +kernel
theorem dL_arePlans_3 : decode cL_arePlans 3 = .ok (.iload_n 2, 1) := by decide +kernel
theorem dL_arePlans_4 : decode cL_arePlans 4 = .ok (.iconst 0, 1) := by decide +kernel
theorem dL_arePlans_5 : decode cL_arePlans 5 = .ok (.iconst 0, 1) := by decide +kernel
theorem dL_arePlans_6 : decode cL_arePlans 6 = .ok (.iconst 0, 1) := by decide +kernel
theorem dL_arePlans_7 : decode cL_arePlans 7 = .ok (.invokestatic 81, 3) := by decide +kernel
theorem dL_arePlans_10 : decode cL_arePlans 10 = .ok (.istore_n 3, 1) := by decide +kernel
theorem dL_arePlans_11 : decode cL_arePlans 11 = .ok (.iload_n 3, 1) := by decide +kernel
theorem dL_arePlans_12 : decode cL_arePlans 12 = .ok (.ifCond .ge 26, 3) := by decide +kernel
theorem dL_arePlans_15 : decode cL_arePlans 15 = .ok (.iload_n 3, 1) := by decide +kernel
theorem dL_arePlans_16 : decode cL_arePlans 16 = .ok (.sipush (-1013), 3) := by decide +kernel
theorem dL_arePlans_19 : decode cL_arePlans 19 = .ok (.if_icmp .ne 23, 3) := by decide +kernel
theorem dL_arePlans_22 : decode cL_arePlans 22 = .ok (.aload_n 0, 1) := by decide +kernel
theorem dL_arePlans_23 : decode cL_arePlans 23 = .ok (.bipush 10, 2) := by decide +kernel
theorem dL_arePlans_25 : decode cL_arePlans 25 = .ok (.iload_n 2, 1) := by decide +kernel
theorem dL_arePlans_26 : decode cL_arePlans 26 = .ok (.iconst 0, 1) := by decide +kernel
theorem dL_arePlans_27 : decode cL_arePlans 27 = .ok (.iconst 0, 1) := by decide +kernel
theorem dL_arePlans_28 : decode cL_arePlans 28 = .ok (.iconst 0, 1) := by decide +kernel
theorem dL_arePlans_29 : decode cL_arePlans 29 = .ok (.invokestatic 81, 3) := by decide +kernel
theorem dL_arePlans_32 : decode cL_arePlans 32 = .ok (.sipush (-1013), 3) := by decide +kernel
theorem dL_arePlans_35 : decode cL_arePlans 35 = .ok (.if_icmp .ne 7, 3) := by decide +kernel
theorem dL_arePlans_38 : decode cL_arePlans 38 = .ok (.iconst 1, 1) := by decide +kernel
theorem dL_arePlans_39 : decode cL_arePlans 39 = .ok (.goto 4, 3) := by decide +kernel
theorem dL_arePlans_42 : decode cL_arePlans 42 = .ok (.iconst 0, 1) := by decide +kernel
theorem dL_arePlans_43 : decode cL_arePlans 43 = .ok (.istore 4, 2) := by decide +kernel
theorem dL_arePlans_45 : decode cL_arePlans 45 = .ok (.lconst 0, 1) := by decide +kernel
theorem dL_arePlans_46 : decode cL_arePlans 46 = .ok (.lstore 5, 2) := by decide +kernel
theorem dL_arePlans_48 : decode cL_arePlans 48 = .ok (.iconst 0, 1) := by decide +kernel
theorem dL_arePlans_49 : decode cL_arePlans 49 = .ok (.istore 7, 2) := by decide +kernel
theorem dL_arePlans_51 : decode cL_arePlans 51 = .ok (.iload 7, 2) := by decide +kernel
theorem dL_arePlans_53 : decode cL_arePlans 53 = .ok (.bipush 6, 2) := by decide +kernel
theorem dL_arePlans_55 : decode cL_arePlans 55 = .ok (.if_icmp .ge 149, 3) := by decide +kernel
theorem dL_arePlans_58 : decode cL_arePlans 58 = .ok (.iload 4, 2) := by decide +kernel
theorem dL_arePlans_60 : decode cL_arePlans 60 = .ok (.ifCond .eq 144, 3) := by decide +kernel
theorem dL_arePlans_63 : decode cL_arePlans 63 = .ok (.iload_n 3, 1) := by decide +kernel
theorem dL_arePlans_64 : decode cL_arePlans 64 = .ok (.ifCond .lt 140, 3) := by decide +kernel
theorem dL_arePlans_67 : decode cL_arePlans 67 = .ok (.aload_n 0, 1) := by decide +kernel
theorem dL_arePlans_68 : decode cL_arePlans 68 = .ok (.bipush 10, 2) := by decide +kernel
theorem dL_arePlans_70 : decode cL_arePlans 70 = .ok (.iload_n 2, 1) := by decide +kernel
theorem dL_arePlans_71 : decode cL_arePlans 71 = .ok (.iload 7, 2) := by decide +kernel
theorem dL_arePlans_73 : decode cL_arePlans 73 = .ok (.iconst 0, 1) := by decide +kernel
theorem dL_arePlans_74 : decode cL_arePlans 74 = .ok (.iconst 0, 1) := by decide +kernel
theorem dL_arePlans_75 : decode cL_arePlans 75 = .ok (.invokestatic 81, 3) := by decide +kernel
theorem dL_arePlans_78 : decode cL_arePlans 78 = .ok (.istore 8, 2) := by decide +kernel
theorem dL_arePlans_80 : decode cL_arePlans 80 = .ok (.iload 8, 2) := by decide +kernel
theorem dL_arePlans_82 : decode cL_arePlans 82 = .ok (.iconst (-1), 1) := by decide +kernel
theorem dL_arePlans_83 : decode cL_arePlans 83 = .ok (.if_icmp .lt 94, 3) := by decide +kernel
theorem dL_arePlans_86 : decode cL_arePlans 86 = .ok (.iload 8, 2) := by decide +kernel
theorem dL_arePlans_88 : decode cL_arePlans 88 = .ok (.ifCond .lt 85, 3) := by decide +kernel
theorem dL_arePlans_91 : decode cL_arePlans 91 = .ok (.lload 5, 2) := by decide +kernel
theorem dL_arePlans_93 : decode cL_arePlans 93 = .ok (.iload 8, 2) := by decide +kernel
theorem dL_arePlans_95 : decode cL_arePlans 95 = .ok (.lshr, 1) := by decide +kernel
theorem dL_arePlans_96 : decode cL_arePlans 96 = .ok (.lconst 1, 1) := by decide +kernel
theorem dL_arePlans_97 : decode cL_arePlans 97 = .ok (.land, 1) := by decide +kernel
theorem dL_arePlans_98 : decode cL_arePlans 98 = .ok (.lconst 0, 1) := by decide +kernel
theorem dL_arePlans_99 : decode cL_arePlans 99 = .ok (.lcmp, 1) := by decide +kernel
theorem dL_arePlans_100 : decode cL_arePlans 100 = .ok (.ifCond .ne 77, 3) := by decide +kernel
theorem dL_arePlans_103 : decode cL_arePlans 103 = .ok (.aload_n 0, 1) := by decide +kernel
theorem dL_arePlans_104 : decode cL_arePlans 104 = .ok (.iload 8, 2) := by decide +kernel
theorem dL_arePlans_106 : decode cL_arePlans 106 = .ok (.iconst 0, 1) := by decide +kernel
theorem dL_arePlans_107 : decode cL_arePlans 107 = .ok (.invokevirtual 75, 3) := by decide +kernel
theorem dL_arePlans_110 : decode cL_arePlans 110 = .ok (.iload_n 2, 1) := by decide +kernel
theorem dL_arePlans_111 : decode cL_arePlans 111 = .ok (.if_icmp .ne 66, 3) := by decide +kernel
theorem dL_arePlans_114 : decode cL_arePlans 114 = .ok (.aload_n 0, 1) := by decide +kernel
theorem dL_arePlans_115 : decode cL_arePlans 115 = .ok (.iload 8, 2) := by decide +kernel
theorem dL_arePlans_117 : decode cL_arePlans 117 = .ok (.iconst 2, 1) := by decide +kernel
theorem dL_arePlans_118 : decode cL_arePlans 118 = .ok (.invokevirtual 75, 3) := by decide +kernel
theorem dL_arePlans_121 : decode cL_arePlans 121 = .ok (.ifCond .ne 56, 3) := by decide +kernel
theorem dL_arePlans_124 : decode cL_arePlans 124 = .ok (.aload_n 0, 1) := by decide +kernel
theorem dL_arePlans_125 : decode cL_arePlans 125 = .ok (.iload 8, 2) := by decide +kernel
theorem dL_arePlans_127 : decode cL_arePlans 127 = .ok (.iconst 3, 1) := by decide +kernel
theorem dL_arePlans_128 : decode cL_arePlans 128 = .ok (.invokevirtual 75, 3) := by decide +kernel
theorem dL_arePlans_131 : decode cL_arePlans 131 = .ok (.ifCond .ne 46, 3) := by decide +kernel
theorem dL_arePlans_134 : decode cL_arePlans 134 = .ok (.aload_n 0, 1) := by decide +kernel
theorem dL_arePlans_135 : decode cL_arePlans 135 = .ok (.iload 8, 2) := by decide +kernel
theorem dL_arePlans_137 : decode cL_arePlans 137 = .ok (.iconst 4, 1) := by decide +kernel
theorem dL_arePlans_138 : decode cL_arePlans 138 = .ok (.invokevirtual 75, 3) := by decide +kernel
theorem dL_arePlans_141 : decode cL_arePlans 141 = .ok (.iconst (-1), 1) := by decide +kernel
theorem dL_arePlans_142 : decode cL_arePlans 142 = .ok (.if_icmp .ne 35, 3) := by decide +kernel
theorem dL_arePlans_145 : decode cL_arePlans 145 = .ok (.aload_n 0, 1) := by decide +kernel
theorem dL_arePlans_146 : decode cL_arePlans 146 = .ok (.iload 8, 2) := by decide +kernel
theorem dL_arePlans_148 : decode cL_arePlans 148 = .ok (.iconst 5, 1) := by decide +kernel
theorem dL_arePlans_149 : decode cL_arePlans 149 = .ok (.invokevirtual 75, 3) := by decide +kernel
theorem dL_arePlans_152 : decode cL_arePlans 152 = .ok (.ifCond .ne 25, 3) := by decide +kernel
theorem dL_arePlans_155 : decode cL_arePlans 155 = .ok (.aload_n 0, 1) := by decide +kernel
theorem dL_arePlans_156 : decode cL_arePlans 156 = .ok (.iload 8, 2) := by decide +kernel
theorem dL_arePlans_158 : decode cL_arePlans 158 = .ok (.iload_n 1, 1) := by decide +kernel
theorem dL_arePlans_159 : decode cL_arePlans 159 = .ok (.invokevirtual 66, 3) := by decide +kernel
theorem dL_arePlans_162 : decode cL_arePlans 162 = .ok (.bipush 6, 2) := by decide +kernel
theorem dL_arePlans_164 : decode cL_arePlans 164 = .ok (.if_icmp .ge 13, 3) := by decide +kernel
theorem dL_arePlans_167 : decode cL_arePlans 167 = .ok (.iload 7, 2) := by decide +kernel
theorem dL_arePlans_169 : decode cL_arePlans 169 = .ok (.iconst 5, 1) := by decide +kernel
theorem dL_arePlans_170 : decode cL_arePlans 170 = .ok (.if_icmp .ge 7, 3) := by decide +kernel
theorem dL_arePlans_173 : decode cL_arePlans 173 = .ok (.iconst 1, 1) := by decide +kernel
theorem dL_arePlans_174 : decode cL_arePlans 174 = .ok (.goto 4, 3) := by decide +kernel
theorem dL_arePlans_177 : decode cL_arePlans 177 = .ok (.iconst 0, 1) := by decide +kernel
theorem dL_arePlans_178 : decode cL_arePlans 178 = .ok (.istore 4, 2) := by decide +kernel
theorem dL_arePlans_180 : decode cL_arePlans 180 = .ok (.lload 5, 2) := by decide +kernel
theorem dL_arePlans_182 : decode cL_arePlans 182 = .ok (.iload 8, 2) := by decide +kernel
theorem dL_arePlans_184 : decode cL_arePlans 184 = .ok (.ifCond .ge 7, 3) := by decide +kernel
theorem dL_arePlans_187 : decode cL_arePlans 187 = .ok (.lconst 0, 1) := by decide +kernel
theorem dL_arePlans_188 : decode cL_arePlans 188 = .ok (.goto 7, 3) := by decide +kernel
theorem dL_arePlans_191 : decode cL_arePlans 191 = .ok (.lconst 1, 1) := by decide +kernel
theorem dL_arePlans_192 : decode cL_arePlans 192 = .ok (.iload 8, 2) := by decide +kernel
theorem dL_arePlans_194 : decode cL_arePlans 194 = .ok (.lshl, 1) := by decide +kernel
theorem dL_arePlans_195 : decode cL_arePlans 195 = .ok (.lor, 1) := by decide +kernel
theorem dL_arePlans_196 : decode cL_arePlans 196 = .ok (.lstore 5, 2) := by decide +kernel
theorem dL_arePlans_198 : decode cL_arePlans 198 = .ok (.iinc 7 1, 3) := by decide +kernel
theorem dL_arePlans_201 : decode cL_arePlans 201 = .ok (.goto (-150), 3) := by decide +kernel
theorem dL_arePlans_204 : decode cL_arePlans 204 = .ok (.iload 4, 2) := by decide +kernel
theorem dL_arePlans_206 : decode cL_arePlans 206 = .ok (.ifCond .eq 18, 3) := by decide +kernel
theorem dL_arePlans_209 : decode cL_arePlans 209 = .ok (.iload_n 3, 1) := by decide +kernel
theorem dL_arePlans_210 : decode cL_arePlans 210 = .ok (.ifCond .le 10, 3) := by decide +kernel
theorem dL_arePlans_213 : decode cL_arePlans 213 = .ok (.lload 5, 2) := by decide +kernel
theorem dL_arePlans_215 : decode cL_arePlans 215 = .ok (.lconst 0, 1) := by decide +kernel
theorem dL_arePlans_216 : decode cL_arePlans 216 = .ok (.lcmp, 1) := by decide +kernel
theorem dL_arePlans_217 : decode cL_arePlans 217 = .ok (.ifCond .eq 7, 3) := by decide +kernel
theorem dL_arePlans_220 : decode cL_arePlans 220 = .ok (.iconst 1, 1) := by decide +kernel
theorem dL_arePlans_221 : decode cL_arePlans 221 = .ok (.goto 4, 3) := by decide +kernel
theorem dL_arePlans_224 : decode cL_arePlans 224 = .ok (.iconst 0, 1) := by decide +kernel
theorem dL_arePlans_225 : decode cL_arePlans 225 = .ok (.ireturn, 1) := by decide +kernel
theorem dL_law_0 : decode cL_law 0 = .ok (.new 8, 3) := by decide +kernel
theorem dL_law_3 : decode cL_law 3 = .ok (.dup, 1) := by decide +kernel
theorem dL_law_4 : decode cL_law 4 = .ok (.invokespecial 84, 3) := by decide +kernel
theorem dL_law_7 : decode cL_law 7 = .ok (.astore_n 1, 1) := by decide +kernel
theorem dL_law_8 : decode cL_law 8 = .ok (.bipush 20, 2) := by decide +kernel
theorem dL_law_10 : decode cL_law 10 = .ok (.newarray .int, 2) := by decide +kernel
theorem dL_law_12 : decode cL_law 12 = .ok (.astore_n 2, 1) := by decide +kernel
theorem dL_law_13 : decode cL_law 13 = .ok (.iconst 0, 1) := by decide +kernel
theorem dL_law_14 : decode cL_law 14 = .ok (.istore_n 3, 1) := by decide +kernel
theorem dL_law_15 : decode cL_law 15 = .ok (.iconst 0, 1) := by decide +kernel
theorem dL_law_16 : decode cL_law 16 = .ok (.istore 4, 2) := by decide +kernel
theorem dL_law_18 : decode cL_law 18 = .ok (.iconst 0, 1) := by decide +kernel
theorem dL_law_19 : decode cL_law 19 = .ok (.istore 5, 2) := by decide +kernel
theorem dL_law_21 : decode cL_law 21 = .ok (.iconst 0, 1) := by decide +kernel
theorem dL_law_22 : decode cL_law 22 = .ok (.istore 6, 2) := by decide +kernel
theorem dL_law_24 : decode cL_law 24 = .ok (.iconst 1, 1) := by decide +kernel
theorem dL_law_25 : decode cL_law 25 = .ok (.istore 7, 2) := by decide +kernel
theorem dL_law_27 : decode cL_law 27 = .ok (.aload_n 0, 1) := by decide +kernel
theorem dL_law_28 : decode cL_law 28 = .ok (.arraylength, 1) := by decide +kernel
theorem dL_law_29 : decode cL_law 29 = .ok (.bipush 60, 2) := by decide +kernel
theorem dL_law_31 : decode cL_law 31 = .ok (.if_icmp .ge 9, 3) := by decide +kernel
theorem dL_law_34 : decode cL_law 34 = .ok (.sipush 260, 3) := by decide +kernel
theorem dL_law_37 : decode cL_law 37 = .ok (.goto 20, 3) := by decide +kernel
theorem dL_law_40 : decode cL_law 40 = .ok (.aload_n 0, 1) := by decide +kernel
theorem dL_law_41 : decode cL_law 41 = .ok (.arraylength, 1) := by decide +kernel
theorem dL_law_42 : decode cL_law 42 = .ok (.bipush 110, 2) := by decide +kernel
theorem dL_law_44 : decode cL_law 44 = .ok (.if_icmp .ge 10, 3) := by decide +kernel
theorem dL_law_47 : decode cL_law 47 = .ok (.iconst 3, 1) := by decide +kernel
theorem dL_law_48 : decode cL_law 48 = .ok (.aload_n 0, 1) := by decide +kernel
theorem dL_law_49 : decode cL_law 49 = .ok (.arraylength, 1) := by decide +kernel
theorem dL_law_50 : decode cL_law 50 = .ok (.imul, 1) := by decide +kernel
theorem dL_law_51 : decode cL_law 51 = .ok (.goto 6, 3) := by decide +kernel
theorem dL_law_54 : decode cL_law 54 = .ok (.sipush 330, 3) := by decide +kernel
theorem dL_law_57 : decode cL_law 57 = .ok (.istore 8, 2) := by decide +kernel
theorem dL_law_59 : decode cL_law 59 = .ok (.iconst 0, 1) := by decide +kernel
theorem dL_law_60 : decode cL_law 60 = .ok (.istore 9, 2) := by decide +kernel
theorem dL_law_62 : decode cL_law 62 = .ok (.iload 9, 2) := by decide +kernel
theorem dL_law_64 : decode cL_law 64 = .ok (.iload 8, 2) := by decide +kernel
theorem dL_law_66 : decode cL_law 66 = .ok (.if_icmp .ge 1166, 3) := by decide +kernel
theorem dL_law_69 : decode cL_law 69 = .ok (.iload 7, 2) := by decide +kernel
theorem dL_law_71 : decode cL_law 71 = .ok (.ifCond .eq 1161, 3) := by decide +kernel
theorem dL_law_74 : decode cL_law 74 = .ok (.aload_n 0, 1) := by decide +kernel
theorem dL_law_75 : decode cL_law 75 = .ok (.iload 9, 2) := by decide +kernel
theorem dL_law_77 : decode cL_law 77 = .ok (.invokestatic 85, 3) := by decide +kernel
theorem dL_law_80 : decode cL_law 80 = .ok (.iconst 5, 1) := by decide +kernel
theorem dL_law_81 : decode cL_law 81 = .ok (.ishr, 1) := by decide +kernel
theorem dL_law_82 : decode cL_law 82 = .ok (.ldc 89, 2) := by decide +kernel
theorem dL_law_84 : decode cL_law 84 = .ok (.iand, 1) := by decide +kernel
theorem dL_law_85 : decode cL_law 85 = .ok (.istore 10, 2) := by decide +kernel
theorem dL_law_87 : decode cL_law 87 = .ok (.iload 9, 2) := by decide +kernel
theorem dL_law_89 : decode cL_law 89 = .ok (.bipush 6, 2) := by decide +kernel
theorem dL_law_91 : decode cL_law 91 = .ok (.if_icmp .ge 7, 3) := by decide +kernel
theorem dL_law_94 : decode cL_law 94 = .ok (.iconst 0, 1) := by decide +kernel
theorem dL_law_95 : decode cL_law 95 = .ok (.goto 12, 3) := by decide +kernel
theorem dL_law_98 : decode cL_law 98 = .ok (.aload_n 0, 1) := by decide +kernel
theorem dL_law_99 : decode cL_law 99 = .ok (.iload 9, 2) := by decide +kernel
theorem dL_law_101 : decode cL_law 101 = .ok (.invokestatic 85, 3) := by decide +kernel
theorem dL_law_104 : decode cL_law 104 = .ok (.bipush 31, 2) := by decide +kernel
theorem dL_law_106 : decode cL_law 106 = .ok (.iand, 1) := by decide +kernel
theorem dL_law_107 : decode cL_law 107 = .ok (.istore 11, 2) := by decide +kernel
theorem dL_law_109 : decode cL_law 109 = .ok (.iload_n 3, 1) := by decide +kernel
theorem dL_law_110 : decode cL_law 110 = .ok (.ifCond .ne 7, 3) := by decide +kernel
theorem dL_law_113 : decode cL_law 113 = .ok (.iconst 0, 1) := by decide +kernel
theorem dL_law_114 : decode cL_law 114 = .ok (.goto 9, 3) := by decide +kernel
theorem dL_law_117 : decode cL_law 117 = .ok (.iload 10, 2) := by decide +kernel
theorem dL_law_119 : decode cL_law 119 = .ok (.iconst 1, 1) := by decide +kernel
theorem dL_law_120 : decode cL_law 120 = .ok (.ishr, 1) := by decide +kernel
theorem dL_law_121 : decode cL_law 121 = .ok (.iload_n 3, 1) := by decide +kernel
theorem dL_law_122 : decode cL_law 122 = .ok (.irem, 1) := by decide +kernel
theorem dL_law_123 : decode cL_law 123 = .ok (.istore 12, 2) := by decide +kernel
theorem dL_law_125 : decode cL_law 125 = .ok (.iload 10, 2) := by decide +kernel
theorem dL_law_127 : decode cL_law 127 = .ok (.bipush 6, 2) := by decide +kernel
theorem dL_law_129 : decode cL_law 129 = .ok (.ishr, 1) := by decide +kernel
theorem dL_law_130 : decode cL_law 130 = .ok (.iconst 4, 1) := by decide +kernel
theorem dL_law_131 : decode cL_law 131 = .ok (.irem, 1) := by decide +kernel
theorem dL_law_132 : decode cL_law 132 = .ok (.istore 13, 2) := by decide +kernel
theorem dL_law_134 : decode cL_law 134 = .ok (.iload 11, 2) := by decide +kernel
theorem dL_law_136 : decode cL_law 136 = .ok (.iconst 2, 1) := by decide +kernel
theorem dL_law_137 : decode cL_law 137 = .ok (.if_icmp .ge 67, 3) := by decide +kernel
theorem dL_law_140 : decode cL_law 140 = .ok (.iload_n 3, 1) := by decide +kernel
theorem dL_law_141 : decode cL_law 141 = .ok (.bipush 40, 2) := by decide +kernel
theorem dL_law_143 : decode cL_law 143 = .ok (.if_icmp .ge 61, 3) := by decide +kernel
theorem dL_law_146 : decode cL_law 146 = .ok (.aload_n 1, 1) := by decide +kernel
theorem dL_law_147 : decode cL_law 147 = .ok (.iconst 0, 1) := by decide +kernel
theorem dL_law_148 : decode cL_law 148 = .ok (.iload 10, 2) := by decide +kernel
theorem dL_law_150 : decode cL_law 150 = .ok (.iconst 3, 1) := by decide +kernel
theorem dL_law_151 : decode cL_law 151 = .ok (.irem, 1) := by decide +kernel
theorem dL_law_152 : decode cL_law 152 = .ok (.iload 10, 2) := by decide +kernel
theorem dL_law_154 : decode cL_law 154 = .ok (.iconst 2, 1) := by decide +kernel
theorem dL_law_155 : decode cL_law 155 = .ok (.ishr, 1) := by decide +kernel
theorem dL_law_156 : decode cL_law 156 = .ok (.iconst 3, 1) := by decide +kernel
theorem dL_law_157 : decode cL_law 157 = .ok (.irem, 1) := by decide +kernel
theorem dL_law_158 : decode cL_law 158 = .ok (.iconst 1, 1) := by decide +kernel
theorem dL_law_159 : decode cL_law 159 = .ok (.isub, 1) := by decide +kernel
theorem dL_law_160 : decode cL_law 160 = .ok (.iload 5, 2) := by decide +kernel
theorem dL_law_162 : decode cL_law 162 = .ok (.iload 10, 2) := by decide +kernel
theorem dL_law_164 : decode cL_law 164 = .ok (.iconst 5, 1) := by decide +kernel
theorem dL_law_165 : decode cL_law 165 = .ok (.ishr, 1) := by decide +kernel
theorem dL_law_166 : decode cL_law 166 = .ok (.sipush 200, 3) := by decide +kernel
theorem dL_law_169 : decode cL_law 169 = .ok (.irem, 1) := by decide +kernel
theorem dL_law_170 : decode cL_law 170 = .ok (.iadd, 1) := by decide +kernel
theorem dL_law_171 : decode cL_law 171 = .ok (.iconst 0, 1) := by decide +kernel
theorem dL_law_172 : decode cL_law 172 = .ok (.invokestatic 81, 3) := by decide +kernel
theorem dL_law_175 : decode cL_law 175 = .ok (.iload_n 3, 1) := by decide +kernel
theorem dL_law_176 : decode cL_law 176 = .ok (.if_icmp .ne 19, 3) := by decide +kernel
theorem dL_law_179 : decode cL_law 179 = .ok (.aload_n 1, 1) := by decide +kernel
theorem dL_law_180 : decode cL_law 180 = .ok (.iload_n 3, 1) := by decide +kernel
theorem dL_law_181 : decode cL_law 181 = .ok (.iload 5, 2) := by decide +kernel
theorem dL_law_183 : decode cL_law 183 = .ok (.invokevirtual 66, 3) := by decide +kernel
theorem dL_law_186 : decode cL_law 186 = .ok (.bipush 10, 2) := by decide +kernel
theorem dL_law_188 : decode cL_law 188 = .ok (.if_icmp .ne 7, 3) := by decide +kernel
theorem dL_law_191 : decode cL_law 191 = .ok (.iconst 1, 1) := by decide +kernel
theorem dL_law_192 : decode cL_law 192 = .ok (.goto 4, 3) := by decide +kernel
theorem dL_law_195 : decode cL_law 195 = .ok (.iconst 0, 1) := by decide +kernel
theorem dL_law_196 : decode cL_law 196 = .ok (.istore 7, 2) := by decide +kernel
theorem dL_law_198 : decode cL_law 198 = .ok (.iinc 3 1, 3) := by decide +kernel
theorem dL_law_201 : decode cL_law 201 = .ok (.goto 1025, 3) := by decide +kernel
theorem dL_law_204 : decode cL_law 204 = .ok (.iload 11, 2) := by decide +kernel
theorem dL_law_206 : decode cL_law 206 = .ok (.bipush 12, 2) := by decide +kernel
theorem dL_law_208 : decode cL_law 208 = .ok (.if_icmp .ge 187, 3) := by decide +kernel
theorem dL_law_211 : decode cL_law 211 = .ok (.iload 10, 2) := by decide +kernel
theorem dL_law_213 : decode cL_law 213 = .ok (.bipush 9, 2) := by decide +kernel
theorem dL_law_215 : decode cL_law 215 = .ok (.ishr, 1) := by decide +kernel
theorem dL_law_216 : decode cL_law 216 = .ok (.iconst 3, 1) := by decide +kernel
theorem dL_law_217 : decode cL_law 217 = .ok (.iand, 1) := by decide +kernel
theorem dL_law_218 : decode cL_law 218 = .ok (.ifCond .ne 16, 3) := by decide +kernel
theorem dL_law_221 : decode cL_law 221 = .ok (.iload 10, 2) := by decide +kernel
theorem dL_law_223 : decode cL_law 223 = .ok (.bipush 11, 2) := by decide +kernel
theorem dL_law_225 : decode cL_law 225 = .ok (.ishr, 1) := by decide +kernel
theorem dL_law_226 : decode cL_law 226 = .ok (.iload 5, 2) := by decide +kernel
theorem dL_law_228 : decode cL_law 228 = .ok (.iconst 1, 1) := by decide +kernel
theorem dL_law_229 : decode cL_law 229 = .ok (.iadd, 1) := by decide +kernel
theorem dL_law_230 : decode cL_law 230 = .ok (.irem, 1) := by decide +kernel
theorem dL_law_231 : decode cL_law 231 = .ok (.goto 5, 3) := by decide +kernel
theorem dL_law_234 : decode cL_law 234 = .ok (.iload 5, 2) := by decide +kernel
theorem dL_law_236 : decode cL_law 236 = .ok (.istore 14, 2) := by decide +kernel
theorem dL_law_238 : decode cL_law 238 = .ok (.iload 10, 2) := by decide +kernel
theorem dL_law_240 : decode cL_law 240 = .ok (.bipush 20, 2) := by decide +kernel
theorem dL_law_242 : decode cL_law 242 = .ok (.ishr, 1) := by decide +kernel
theorem dL_law_243 : decode cL_law 243 = .ok (.iconst 3, 1) := by decide +kernel
theorem dL_law_244 : decode cL_law 244 = .ok (.iand, 1) := by decide +kernel
theorem dL_law_245 : decode cL_law 245 = .ok (.ifCond .ne 13, 3) := by decide +kernel
theorem dL_law_248 : decode cL_law 248 = .ok (.iload 10, 2) := by decide +kernel
theorem dL_law_250 : decode cL_law 250 = .ok (.bipush 22, 2) := by decide +kernel
theorem dL_law_252 : decode cL_law 252 = .ok (.ishr, 1) := by decide +kernel
theorem dL_law_253 : decode cL_law 253 = .ok (.iconst 4, 1) := by decide +kernel
theorem dL_law_254 : decode cL_law 254 = .ok (.irem, 1) := by decide +kernel
theorem dL_law_255 : decode cL_law 255 = .ok (.goto 10, 3) := by decide +kernel
theorem dL_law_258 : decode cL_law 258 = .ok (.iload 10, 2) := by decide +kernel
theorem dL_law_260 : decode cL_law 260 = .ok (.bipush 21, 2) := by decide +kernel
theorem dL_law_262 : decode cL_law 262 = .ok (.ishr, 1) := by decide +kernel
theorem dL_law_263 : decode cL_law 263 = .ok (.iconst 1, 1) := by decide +kernel
theorem dL_law_264 : decode cL_law 264 = .ok (.iand, 1) := by decide +kernel
theorem dL_law_265 : decode cL_law 265 = .ok (.istore 15, 2) := by decide +kernel
theorem dL_law_267 : decode cL_law 267 = .ok (.aload_n 1, 1) := by decide +kernel
theorem dL_law_268 : decode cL_law 268 = .ok (.iconst 2, 1) := by decide +kernel
theorem dL_law_269 : decode cL_law 269 = .ok (.iload 12, 2) := by decide +kernel
theorem dL_law_271 : decode cL_law 271 = .ok (.iload 14, 2) := by decide +kernel
theorem dL_law_273 : decode cL_law 273 = .ok (.iload 15, 2) := by decide +kernel
theorem dL_law_275 : decode cL_law 275 = .ok (.iload 13, 2) := by decide +kernel
theorem dL_law_277 : decode cL_law 277 = .ok (.invokestatic 81, 3) := by decide +kernel
theorem dL_law_280 : decode cL_law 280 = .ok (.istore 16, 2) := by decide +kernel
theorem dL_law_282 : decode cL_law 282 = .ok (.aload_n 1, 1) := by decide +kernel
theorem dL_law_283 : decode cL_law 283 = .ok (.iload 12, 2) := by decide +kernel
theorem dL_law_285 : decode cL_law 285 = .ok (.iload 5, 2) := by decide +kernel
theorem dL_law_287 : decode cL_law 287 = .ok (.invokevirtual 66, 3) := by decide +kernel
theorem dL_law_290 : decode cL_law 290 = .ok (.istore 17, 2) := by decide +kernel
theorem dL_law_292 : decode cL_law 292 = .ok (.aload_n 1, 1) := by decide +kernel
theorem dL_law_293 : decode cL_law 293 = .ok (.iload 12, 2) := by decide +kernel
theorem dL_law_295 : decode cL_law 295 = .ok (.bipush 6, 2) := by decide +kernel
theorem dL_law_297 : decode cL_law 297 = .ok (.invokevirtual 75, 3) := by decide +kernel
theorem dL_law_300 : decode cL_law 300 = .ok (.istore 18, 2) := by decide +kernel
theorem dL_law_302 : decode cL_law 302 = .ok (.iload 16, 2) := by decide +kernel
theorem dL_law_304 : decode cL_law 304 = .ok (.sipush (-1013), 3) := by decide +kernel
theorem dL_law_307 : decode cL_law 307 = .ok (.if_icmp .eq 16, 3) := by decide +kernel
theorem dL_law_310 : decode cL_law 310 = .ok (.iload 16, 2) := by decide +kernel
theorem dL_law_312 : decode cL_law 312 = .ok (.iconst (-1), 1) := by decide +kernel
theorem dL_law_313 : decode cL_law 313 = .ok (.if_icmp .eq 10, 3) := by decide +kernel
theorem dL_law_316 : decode cL_law 316 = .ok (.iload 16, 2) := by decide +kernel
theorem dL_law_318 : decode cL_law 318 = .ok (.iload 18, 2) := by decide +kernel
theorem dL_law_320 : decode cL_law 320 = .ok (.if_icmp .ne 7, 3) := by decide +kernel
theorem dL_law_323 : decode cL_law 323 = .ok (.iconst 1, 1) := by decide +kernel
theorem dL_law_324 : decode cL_law 324 = .ok (.goto 4, 3) := by decide +kernel
theorem dL_law_327 : decode cL_law 327 = .ok (.iconst 0, 1) := by decide +kernel
theorem dL_law_328 : decode cL_law 328 = .ok (.istore 7, 2) := by decide +kernel
theorem dL_law_330 : decode cL_law 330 = .ok (.iload 7, 2) := by decide +kernel
theorem dL_law_332 : decode cL_law 332 = .ok (.ifCond .eq 57, 3) := by decide +kernel
theorem dL_law_335 : decode cL_law 335 = .ok (.iload 16, 2) := by decide +kernel
theorem dL_law_337 : decode cL_law 337 = .ok (.sipush (-1013), 3) := by decide +kernel
theorem dL_law_340 : decode cL_law 340 = .ok (.if_icmp .eq 45, 3) := by decide +kernel
theorem dL_law_343 : decode cL_law 343 = .ok (.aload_n 1, 1) := by decide +kernel
theorem dL_law_344 : decode cL_law 344 = .ok (.iconst 2, 1) := by decide +kernel
theorem dL_law_345 : decode cL_law 345 = .ok (.iload 12, 2) := by decide +kernel
theorem dL_law_347 : decode cL_law 347 = .ok (.iload 14, 2) := by decide +kernel
theorem dL_law_349 : decode cL_law 349 = .ok (.iload 15, 2) := by decide +kernel
theorem dL_law_351 : decode cL_law 351 = .ok (.iload 13, 2) := by decide +kernel
theorem dL_law_353 : decode cL_law 353 = .ok (.invokestatic 81, 3) := by decide +kernel
theorem dL_law_356 : decode cL_law 356 = .ok (.ifCond .ge 33, 3) := by decide +kernel
theorem dL_law_359 : decode cL_law 359 = .ok (.aload_n 1, 1) := by decide +kernel
theorem dL_law_360 : decode cL_law 360 = .ok (.iload 12, 2) := by decide +kernel
theorem dL_law_362 : decode cL_law 362 = .ok (.iload 5, 2) := by decide +kernel
theorem dL_law_364 : decode cL_law 364 = .ok (.invokevirtual 66, 3) := by decide +kernel
theorem dL_law_367 : decode cL_law 367 = .ok (.iload 17, 2) := by decide +kernel
theorem dL_law_369 : decode cL_law 369 = .ok (.if_icmp .ne 20, 3) := by decide +kernel
theorem dL_law_372 : decode cL_law 372 = .ok (.aload_n 1, 1) := by decide +kernel
theorem dL_law_373 : decode cL_law 373 = .ok (.iload 12, 2) := by decide +kernel
theorem dL_law_375 : decode cL_law 375 = .ok (.bipush 6, 2) := by decide +kernel
theorem dL_law_377 : decode cL_law 377 = .ok (.invokevirtual 75, 3) := by decide +kernel
theorem dL_law_380 : decode cL_law 380 = .ok (.iload 18, 2) := by decide +kernel
theorem dL_law_382 : decode cL_law 382 = .ok (.if_icmp .ne 7, 3) := by decide +kernel
theorem dL_law_385 : decode cL_law 385 = .ok (.iconst 1, 1) := by decide +kernel
theorem dL_law_386 : decode cL_law 386 = .ok (.goto 4, 3) := by decide +kernel
theorem dL_law_389 : decode cL_law 389 = .ok (.iconst 0, 1) := by decide +kernel
theorem dL_law_390 : decode cL_law 390 = .ok (.istore 7, 2) := by decide +kernel
theorem dL_law_392 : decode cL_law 392 = .ok (.goto 834, 3) := by decide +kernel
theorem dL_law_395 : decode cL_law 395 = .ok (.iload 11, 2) := by decide +kernel
theorem dL_law_397 : decode cL_law 397 = .ok (.bipush 12, 2) := by decide +kernel
theorem dL_law_399 : decode cL_law 399 = .ok (.if_icmp .ne 83, 3) := by decide +kernel
theorem dL_law_402 : decode cL_law 402 = .ok (.aload_n 1, 1) := by decide +kernel
theorem dL_law_403 : decode cL_law 403 = .ok (.iconst 1, 1) := by decide +kernel
theorem dL_law_404 : decode cL_law 404 = .ok (.iload 12, 2) := by decide +kernel
theorem dL_law_406 : decode cL_law 406 = .ok (.iload 5, 2) := by decide +kernel
theorem dL_law_408 : decode cL_law 408 = .ok (.iload 10, 2) := by decide +kernel
theorem dL_law_410 : decode cL_law 410 = .ok (.bipush 9, 2) := by decide +kernel
theorem dL_law_412 : decode cL_law 412 = .ok (.ishr, 1) := by decide +kernel
theorem dL_law_413 : decode cL_law 413 = .ok (.bipush 100, 2) := by decide +kernel
theorem dL_law_415 : decode cL_law 415 = .ok (.irem, 1) := by decide +kernel
theorem dL_law_416 : decode cL_law 416 = .ok (.iadd, 1) := by decide +kernel
theorem dL_law_417 : decode cL_law 417 = .ok (.iconst 0, 1) := by decide +kernel
theorem dL_law_418 : decode cL_law 418 = .ok (.iconst 0, 1) := by decide +kernel
theorem dL_law_419 : decode cL_law 419 = .ok (.invokestatic 81, 3) := by decide +kernel
theorem dL_law_422 : decode cL_law 422 = .ok (.istore 14, 2) := by decide +kernel
theorem dL_law_424 : decode cL_law 424 = .ok (.aload_n 1, 1) := by decide +kernel
theorem dL_law_425 : decode cL_law 425 = .ok (.iload 12, 2) := by decide +kernel
theorem dL_law_427 : decode cL_law 427 = .ok (.iconst 2, 1) := by decide +kernel
theorem dL_law_428 : decode cL_law 428 = .ok (.invokevirtual 75, 3) := by decide +kernel
theorem dL_law_431 : decode cL_law 431 = .ok (.iconst 1, 1) := by decide +kernel
theorem dL_law_432 : decode cL_law 432 = .ok (.if_icmp .ne 19, 3) := by decide +kernel
theorem dL_law_435 : decode cL_law 435 = .ok (.iload 14, 2) := by decide +kernel
theorem dL_law_437 : decode cL_law 437 = .ok (.sipush (-1013), 3) := by decide +kernel
theorem dL_law_440 : decode cL_law 440 = .ok (.if_icmp .ne 7, 3) := by decide +kernel
theorem dL_law_443 : decode cL_law 443 = .ok (.iconst 1, 1) := by decide +kernel
theorem dL_law_444 : decode cL_law 444 = .ok (.goto 33, 3) := by decide +kernel
theorem dL_law_447 : decode cL_law 447 = .ok (.iconst 0, 1) := by decide +kernel
theorem dL_law_448 : decode cL_law 448 = .ok (.goto 29, 3) := by decide +kernel
theorem dL_law_451 : decode cL_law 451 = .ok (.iload 14, 2) := by decide +kernel
theorem dL_law_453 : decode cL_law 453 = .ok (.ifCond .eq 9, 3) := by decide +kernel
theorem dL_law_456 : decode cL_law 456 = .ok (.iload 14, 2) := by decide +kernel
theorem dL_law_458 : decode cL_law 458 = .ok (.iconst 1, 1) := by decide +kernel
theorem dL_law_459 : decode cL_law 459 = .ok (.if_icmp .ne 17, 3) := by decide +kernel
theorem dL_law_462 : decode cL_law 462 = .ok (.aload_n 1, 1) := by decide +kernel
theorem dL_law_463 : decode cL_law 463 = .ok (.iload 12, 2) := by decide +kernel
theorem dL_law_465 : decode cL_law 465 = .ok (.iconst 3, 1) := by decide +kernel
theorem dL_law_466 : decode cL_law 466 = .ok (.invokevirtual 75, 3) := by decide +kernel
theorem dL_law_469 : decode cL_law 469 = .ok (.ifCond .ne 7, 3) := by decide +kernel
theorem dL_law_472 : decode cL_law 472 = .ok (.iconst 1, 1) := by decide +kernel
theorem dL_law_473 : decode cL_law 473 = .ok (.goto 4, 3) := by decide +kernel
theorem dL_law_476 : decode cL_law 476 = .ok (.iconst 0, 1) := by decide +kernel
theorem dL_law_477 : decode cL_law 477 = .ok (.istore 7, 2) := by decide +kernel
theorem dL_law_479 : decode cL_law 479 = .ok (.goto 747, 3) := by decide +kernel
theorem dL_law_482 : decode cL_law 482 = .ok (.iload 11, 2) := by decide +kernel
theorem dL_law_484 : decode cL_law 484 = .ok (.bipush 15, 2) := by decide +kernel
theorem dL_law_486 : decode cL_law 486 = .ok (.if_icmp .ge 81, 3) := by decide +kernel
theorem dL_law_489 : decode cL_law 489 = .ok (.iload 10, 2) := by decide +kernel
theorem dL_law_491 : decode cL_law 491 = .ok (.bipush 9, 2) := by decide +kernel
theorem dL_law_493 : decode cL_law 493 = .ok (.ishr, 1) := by decide +kernel
theorem dL_law_494 : decode cL_law 494 = .ok (.iload 5, 2) := by decide +kernel
theorem dL_law_496 : decode cL_law 496 = .ok (.iconst 5, 1) := by decide +kernel
theorem dL_law_497 : decode cL_law 497 = .ok (.iadd, 1) := by decide +kernel
theorem dL_law_498 : decode cL_law 498 = .ok (.irem, 1) := by decide +kernel
theorem dL_law_499 : decode cL_law 499 = .ok (.istore 14, 2) := by decide +kernel
theorem dL_law_501 : decode cL_law 501 = .ok (.aload_n 1, 1) := by decide +kernel
theorem dL_law_502 : decode cL_law 502 = .ok (.iconst 3, 1) := by decide +kernel
theorem dL_law_503 : decode cL_law 503 = .ok (.iload 12, 2) := by decide +kernel
theorem dL_law_505 : decode cL_law 505 = .ok (.iload 14, 2) := by decide +kernel
theorem dL_law_507 : decode cL_law 507 = .ok (.iload 14, 2) := by decide +kernel
theorem dL_law_509 : decode cL_law 509 = .ok (.iload 10, 2) := by decide +kernel
theorem dL_law_511 : decode cL_law 511 = .ok (.bipush 15, 2) := by decide +kernel
theorem dL_law_513 : decode cL_law 513 = .ok (.ishr, 1) := by decide +kernel
theorem dL_law_514 : decode cL_law 514 = .ok (.bipush 90, 2) := by decide +kernel
theorem dL_law_516 : decode cL_law 516 = .ok (.irem, 1) := by decide +kernel
theorem dL_law_517 : decode cL_law 517 = .ok (.iadd, 1) := by decide +kernel
theorem dL_law_518 : decode cL_law 518 = .ok (.iconst 0, 1) := by decide +kernel
theorem dL_law_519 : decode cL_law 519 = .ok (.invokestatic 81, 3) := by decide +kernel
theorem dL_law_522 : decode cL_law 522 = .ok (.istore 15, 2) := by decide +kernel
theorem dL_law_524 : decode cL_law 524 = .ok (.iload 15, 2) := by decide +kernel
theorem dL_law_526 : decode cL_law 526 = .ok (.sipush (-1013), 3) := by decide +kernel
theorem dL_law_529 : decode cL_law 529 = .ok (.if_icmp .eq 28, 3) := by decide +kernel
theorem dL_law_532 : decode cL_law 532 = .ok (.iload 15, 2) := by decide +kernel
theorem dL_law_534 : decode cL_law 534 = .ok (.ifCond .ne 27, 3) := by decide +kernel
theorem dL_law_537 : decode cL_law 537 = .ok (.aload_n 1, 1) := by decide +kernel
theorem dL_law_538 : decode cL_law 538 = .ok (.iload 12, 2) := by decide +kernel
theorem dL_law_540 : decode cL_law 540 = .ok (.iconst 1, 1) := by decide +kernel
theorem dL_law_541 : decode cL_law 541 = .ok (.invokevirtual 75, 3) := by decide +kernel
theorem dL_law_544 : decode cL_law 544 = .ok (.ifCond .lt 17, 3) := by decide +kernel
theorem dL_law_547 : decode cL_law 547 = .ok (.aload_n 1, 1) := by decide +kernel
theorem dL_law_548 : decode cL_law 548 = .ok (.iload 12, 2) := by decide +kernel
theorem dL_law_550 : decode cL_law 550 = .ok (.iconst 2, 1) := by decide +kernel
theorem dL_law_551 : decode cL_law 551 = .ok (.invokevirtual 75, 3) := by decide +kernel
theorem dL_law_554 : decode cL_law 554 = .ok (.ifCond .ne 7, 3) := by decide +kernel
theorem dL_law_557 : decode cL_law 557 = .ok (.iconst 1, 1) := by decide +kernel
theorem dL_law_558 : decode cL_law 558 = .ok (.goto 4, 3) := by decide +kernel
theorem dL_law_561 : decode cL_law 561 = .ok (.iconst 0, 1) := by decide +kernel
theorem dL_law_562 : decode cL_law 562 = .ok (.istore 7, 2) := by decide +kernel
theorem dL_law_564 : decode cL_law 564 = .ok (.goto 662, 3) := by decide +kernel
theorem dL_law_567 : decode cL_law 567 = .ok (.iload 11, 2) := by decide +kernel
theorem dL_law_569 : decode cL_law 569 = .ok (.bipush 18, 2) := by decide +kernel
theorem dL_law_571 : decode cL_law 571 = .ok (.if_icmp .ge 146, 3) := by decide +kernel
theorem dL_law_574 : decode cL_law 574 = .ok (.aload_n 1, 1) := by decide +kernel
theorem dL_law_575 : decode cL_law 575 = .ok (.iload 12, 2) := by decide +kernel
theorem dL_law_577 : decode cL_law 577 = .ok (.iload 5, 2) := by decide +kernel
theorem dL_law_579 : decode cL_law 579 = .ok (.invokevirtual 66, 3) := by decide +kernel
theorem dL_law_582 : decode cL_law 582 = .ok (.istore 14, 2) := by decide +kernel
theorem dL_law_584 : decode cL_law 584 = .ok (.aload_n 1, 1) := by decide +kernel
theorem dL_law_585 : decode cL_law 585 = .ok (.iload 12, 2) := by decide +kernel
theorem dL_law_587 : decode cL_law 587 = .ok (.bipush 7, 2) := by decide +kernel
theorem dL_law_589 : decode cL_law 589 = .ok (.invokevirtual 75, 3) := by decide +kernel
theorem dL_law_592 : decode cL_law 592 = .ok (.iconst 1, 1) := by decide +kernel
theorem dL_law_593 : decode cL_law 593 = .ok (.if_icmp .ne 7, 3) := by decide +kernel
theorem dL_law_596 : decode cL_law 596 = .ok (.iconst 1, 1) := by decide +kernel
theorem dL_law_597 : decode cL_law 597 = .ok (.goto 4, 3) := by decide +kernel
theorem dL_law_600 : decode cL_law 600 = .ok (.iconst 0, 1) := by decide +kernel
theorem dL_law_601 : decode cL_law 601 = .ok (.istore 15, 2) := by decide +kernel
theorem dL_law_603 : decode cL_law 603 = .ok (.aload_n 1, 1) := by decide +kernel
theorem dL_law_604 : decode cL_law 604 = .ok (.iconst 4, 1) := by decide +kernel
theorem dL_law_605 : decode cL_law 605 = .ok (.iload 12, 2) := by decide +kernel
theorem dL_law_607 : decode cL_law 607 = .ok (.iconst 0, 1) := by decide +kernel
theorem dL_law_608 : decode cL_law 608 = .ok (.iconst 0, 1) := by decide +kernel
theorem dL_law_609 : decode cL_law 609 = .ok (.iconst 0, 1) := by decide +kernel
theorem dL_law_610 : decode cL_law 610 = .ok (.invokestatic 81, 3) := by decide +kernel
theorem dL_law_613 : decode cL_law 613 = .ok (.istore 16, 2) := by decide +kernel
theorem dL_law_615 : decode cL_law 615 = .ok (.iload 16, 2) := by decide +kernel
theorem dL_law_617 : decode cL_law 617 = .ok (.sipush (-1013), 3) := by decide +kernel
theorem dL_law_620 : decode cL_law 620 = .ok (.if_icmp .eq 87, 3) := by decide +kernel
theorem dL_law_623 : decode cL_law 623 = .ok (.iload 16, 2) := by decide +kernel
theorem dL_law_625 : decode cL_law 625 = .ok (.ifCond .lt 86, 3) := by decide +kernel
theorem dL_law_628 : decode cL_law 628 = .ok (.iload 16, 2) := by decide +kernel
theorem dL_law_630 : decode cL_law 630 = .ok (.bipush 9, 2) := by decide +kernel
theorem dL_law_632 : decode cL_law 632 = .ok (.if_icmp .ge 79, 3) := by decide +kernel
theorem dL_law_635 : decode cL_law 635 = .ok (.iload 15, 2) := by decide +kernel
theorem dL_law_637 : decode cL_law 637 = .ok (.ifCond .eq 74, 3) := by decide +kernel
theorem dL_law_640 : decode cL_law 640 = .ok (.iload 14, 2) := by decide +kernel
theorem dL_law_642 : decode cL_law 642 = .ok (.bipush 6, 2) := by decide +kernel
theorem dL_law_644 : decode cL_law 644 = .ok (.if_icmp .ge 67, 3) := by decide +kernel
theorem dL_law_647 : decode cL_law 647 = .ok (.aload_n 1, 1) := by decide +kernel
theorem dL_law_648 : decode cL_law 648 = .ok (.iload 12, 2) := by decide +kernel
theorem dL_law_650 : decode cL_law 650 = .ok (.iconst 2, 1) := by decide +kernel
theorem dL_law_651 : decode cL_law 651 = .ok (.invokevirtual 75, 3) := by decide +kernel
theorem dL_law_654 : decode cL_law 654 = .ok (.iconst 1, 1) := by decide +kernel
theorem dL_law_655 : decode cL_law 655 = .ok (.if_icmp .ne 56, 3) := by decide +kernel
theorem dL_law_658 : decode cL_law 658 = .ok (.aload_n 1, 1) := by decide +kernel
theorem dL_law_659 : decode cL_law 659 = .ok (.iload 12, 2) := by decide +kernel
theorem dL_law_661 : decode cL_law 661 = .ok (.sipush 9999, 3) := by decide +kernel
theorem dL_law_664 : decode cL_law 664 = .ok (.invokevirtual 66, 3) := by decide +kernel
theorem dL_law_667 : decode cL_law 667 = .ok (.aload_n 1, 1) := by decide +kernel
theorem dL_law_668 : decode cL_law 668 = .ok (.iload 12, 2) := by decide +kernel
theorem dL_law_670 : decode cL_law 670 = .ok (.iload 5, 2) := by decide +kernel
theorem dL_law_672 : decode cL_law 672 = .ok (.invokevirtual 66, 3) := by decide +kernel
theorem dL_law_675 : decode cL_law 675 = .ok (.if_icmp .ne 36, 3) := by decide +kernel
theorem dL_law_678 : decode cL_law 678 = .ok (.aload_n 1, 1) := by decide +kernel
theorem dL_law_679 : decode cL_law 679 = .ok (.iload 12, 2) := by decide +kernel
theorem dL_law_681 : decode cL_law 681 = .ok (.sipush 9999, 3) := by decide +kernel
theorem dL_law_684 : decode cL_law 684 = .ok (.invokevirtual 90, 3) := by decide +kernel
theorem dL_law_687 : decode cL_law 687 = .ok (.iconst 1, 1) := by decide +kernel
theorem dL_law_688 : decode cL_law 688 = .ok (.if_icmp .ne 23, 3) := by decide +kernel
theorem dL_law_691 : decode cL_law 691 = .ok (.aload_n 1, 1) := by decide +kernel
theorem dL_law_692 : decode cL_law 692 = .ok (.iconst 4, 1) := by decide +kernel
theorem dL_law_693 : decode cL_law 693 = .ok (.iload 12, 2) := by decide +kernel
theorem dL_law_695 : decode cL_law 695 = .ok (.iconst 0, 1) := by decide +kernel
theorem dL_law_696 : decode cL_law 696 = .ok (.iconst 0, 1) := by decide +kernel
theorem dL_law_697 : decode cL_law 697 = .ok (.iconst 0, 1) := by decide +kernel
theorem dL_law_698 : decode cL_law 698 = .ok (.invokestatic 81, 3) := by decide +kernel
theorem dL_law_701 : decode cL_law 701 = .ok (.sipush (-1013), 3) := by decide +kernel
theorem dL_law_704 : decode cL_law 704 = .ok (.if_icmp .ne 7, 3) := by decide +kernel
theorem dL_law_707 : decode cL_law 707 = .ok (.iconst 1, 1) := by decide +kernel
theorem dL_law_708 : decode cL_law 708 = .ok (.goto 4, 3) := by decide +kernel
theorem dL_law_711 : decode cL_law 711 = .ok (.iconst 0, 1) := by decide +kernel
theorem dL_law_712 : decode cL_law 712 = .ok (.istore 7, 2) := by decide +kernel
theorem dL_law_714 : decode cL_law 714 = .ok (.goto 512, 3) := by decide +kernel
theorem dL_law_717 : decode cL_law 717 = .ok (.iload 11, 2) := by decide +kernel
theorem dL_law_719 : decode cL_law 719 = .ok (.bipush 20, 2) := by decide +kernel
theorem dL_law_721 : decode cL_law 721 = .ok (.if_icmp .ge 65, 3) := by decide +kernel
theorem dL_law_724 : decode cL_law 724 = .ok (.aload_n 1, 1) := by decide +kernel
theorem dL_law_725 : decode cL_law 725 = .ok (.iconst 5, 1) := by decide +kernel
theorem dL_law_726 : decode cL_law 726 = .ok (.iload 12, 2) := by decide +kernel
theorem dL_law_728 : decode cL_law 728 = .ok (.iload 10, 2) := by decide +kernel
theorem dL_law_730 : decode cL_law 730 = .ok (.bipush 9, 2) := by decide +kernel
theorem dL_law_732 : decode cL_law 732 = .ok (.ishr, 1) := by decide +kernel
theorem dL_law_733 : decode cL_law 733 = .ok (.iconst 5, 1) := by decide +kernel
theorem dL_law_734 : decode cL_law 734 = .ok (.irem, 1) := by decide +kernel
theorem dL_law_735 : decode cL_law 735 = .ok (.iconst 1, 1) := by decide +kernel
theorem dL_law_736 : decode cL_law 736 = .ok (.iload 10, 2) := by decide +kernel
theorem dL_law_738 : decode cL_law 738 = .ok (.bipush 12, 2) := by decide +kernel
theorem dL_law_740 : decode cL_law 740 = .ok (.ishr, 1) := by decide +kernel
theorem dL_law_741 : decode cL_law 741 = .ok (.bipush 6, 2) := by decide +kernel
theorem dL_law_743 : decode cL_law 743 = .ok (.irem, 1) := by decide +kernel
theorem dL_law_744 : decode cL_law 744 = .ok (.iadd, 1) := by decide +kernel
theorem dL_law_745 : decode cL_law 745 = .ok (.iconst 0, 1) := by decide +kernel
theorem dL_law_746 : decode cL_law 746 = .ok (.invokestatic 81, 3) := by decide +kernel
theorem dL_law_749 : decode cL_law 749 = .ok (.istore 14, 2) := by decide +kernel
theorem dL_law_751 : decode cL_law 751 = .ok (.iload 14, 2) := by decide +kernel
theorem dL_law_753 : decode cL_law 753 = .ok (.sipush (-1013), 3) := by decide +kernel
theorem dL_law_756 : decode cL_law 756 = .ok (.if_icmp .eq 20, 3) := by decide +kernel
theorem dL_law_759 : decode cL_law 759 = .ok (.iload 14, 2) := by decide +kernel
theorem dL_law_761 : decode cL_law 761 = .ok (.ifCond .lt 19, 3) := by decide +kernel
theorem dL_law_764 : decode cL_law 764 = .ok (.iload 14, 2) := by decide +kernel
theorem dL_law_766 : decode cL_law 766 = .ok (.aload_n 1, 1) := by decide +kernel
theorem dL_law_767 : decode cL_law 767 = .ok (.iload 12, 2) := by decide +kernel
theorem dL_law_769 : decode cL_law 769 = .ok (.iconst 5, 1) := by decide +kernel
theorem dL_law_770 : decode cL_law 770 = .ok (.invokevirtual 75, 3) := by decide +kernel
theorem dL_law_773 : decode cL_law 773 = .ok (.if_icmp .ne 7, 3) := by decide +kernel
theorem dL_law_776 : decode cL_law 776 = .ok (.iconst 1, 1) := by decide +kernel
theorem dL_law_777 : decode cL_law 777 = .ok (.goto 4, 3) := by decide +kernel
theorem dL_law_780 : decode cL_law 780 = .ok (.iconst 0, 1) := by decide +kernel
theorem dL_law_781 : decode cL_law 781 = .ok (.istore 7, 2) := by decide +kernel
theorem dL_law_783 : decode cL_law 783 = .ok (.goto 443, 3) := by decide +kernel
theorem dL_law_786 : decode cL_law 786 = .ok (.iload 11, 2) := by decide +kernel
theorem dL_law_788 : decode cL_law 788 = .ok (.bipush 22, 2) := by decide +kernel
theorem dL_law_790 : decode cL_law 790 = .ok (.if_icmp .ge 85, 3) := by decide +kernel
theorem dL_law_793 : decode cL_law 793 = .ok (.aload_n 1, 1) := by decide +kernel
theorem dL_law_794 : decode cL_law 794 = .ok (.iload 12, 2) := by decide +kernel
theorem dL_law_796 : decode cL_law 796 = .ok (.iconst 5, 1) := by decide +kernel
theorem dL_law_797 : decode cL_law 797 = .ok (.invokevirtual 75, 3) := by decide +kernel
theorem dL_law_800 : decode cL_law 800 = .ok (.istore 14, 2) := by decide +kernel
theorem dL_law_802 : decode cL_law 802 = .ok (.aload_n 1, 1) := by decide +kernel
theorem dL_law_803 : decode cL_law 803 = .ok (.bipush 6, 2) := by decide +kernel
theorem dL_law_805 : decode cL_law 805 = .ok (.iload 12, 2) := by decide +kernel
theorem dL_law_807 : decode cL_law 807 = .ok (.iconst 0, 1) := by decide +kernel
theorem dL_law_808 : decode cL_law 808 = .ok (.iconst 0, 1) := by decide +kernel
theorem dL_law_809 : decode cL_law 809 = .ok (.iconst 0, 1) := by decide +kernel
theorem dL_law_810 : decode cL_law 810 = .ok (.invokestatic 81, 3) := by decide +kernel
theorem dL_law_813 : decode cL_law 813 = .ok (.istore 15, 2) := by decide +kernel
theorem dL_law_815 : decode cL_law 815 = .ok (.iload 15, 2) := by decide +kernel
theorem dL_law_817 : decode cL_law 817 = .ok (.sipush (-1013), 3) := by decide +kernel
theorem dL_law_820 : decode cL_law 820 = .ok (.if_icmp .ne 23, 3) := by decide +kernel
theorem dL_law_823 : decode cL_law 823 = .ok (.aload_n 1, 1) := by decide +kernel
theorem dL_law_824 : decode cL_law 824 = .ok (.iload 12, 2) := by decide +kernel
theorem dL_law_826 : decode cL_law 826 = .ok (.iconst 5, 1) := by decide +kernel
theorem dL_law_827 : decode cL_law 827 = .ok (.invokevirtual 75, 3) := by decide +kernel
theorem dL_law_830 : decode cL_law 830 = .ok (.iload 14, 2) := by decide +kernel
theorem dL_law_832 : decode cL_law 832 = .ok (.if_icmp .ne 7, 3) := by decide +kernel
theorem dL_law_835 : decode cL_law 835 = .ok (.iconst 1, 1) := by decide +kernel
theorem dL_law_836 : decode cL_law 836 = .ok (.goto 34, 3) := by decide +kernel
theorem dL_law_839 : decode cL_law 839 = .ok (.iconst 0, 1) := by decide +kernel
theorem dL_law_840 : decode cL_law 840 = .ok (.goto 30, 3) := by decide +kernel
theorem dL_law_843 : decode cL_law 843 = .ok (.iload 15, 2) := by decide +kernel
theorem dL_law_845 : decode cL_law 845 = .ok (.iload 14, 2) := by decide +kernel
theorem dL_law_847 : decode cL_law 847 = .ok (.if_icmp .ne 22, 3) := by decide +kernel
theorem dL_law_850 : decode cL_law 850 = .ok (.iload 14, 2) := by decide +kernel
theorem dL_law_852 : decode cL_law 852 = .ok (.ifCond .le 17, 3) := by decide +kernel
theorem dL_law_855 : decode cL_law 855 = .ok (.aload_n 1, 1) := by decide +kernel
theorem dL_law_856 : decode cL_law 856 = .ok (.iload 12, 2) := by decide +kernel
theorem dL_law_858 : decode cL_law 858 = .ok (.iconst 5, 1) := by decide +kernel
theorem dL_law_859 : decode cL_law 859 = .ok (.invokevirtual 75, 3) := by decide +kernel
theorem dL_law_862 : decode cL_law 862 = .ok (.ifCond .ne 7, 3) := by decide +kernel
theorem dL_law_865 : decode cL_law 865 = .ok (.iconst 1, 1) := by decide +kernel
theorem dL_law_866 : decode cL_law 866 = .ok (.goto 4, 3) := by decide +kernel
theorem dL_law_869 : decode cL_law 869 = .ok (.iconst 0, 1) := by decide +kernel
theorem dL_law_870 : decode cL_law 870 = .ok (.istore 7, 2) := by decide +kernel
theorem dL_law_872 : decode cL_law 872 = .ok (.goto 354, 3) := by decide +kernel
theorem dL_law_875 : decode cL_law 875 = .ok (.iload 11, 2) := by decide +kernel
theorem dL_law_877 : decode cL_law 877 = .ok (.bipush 24, 2) := by decide +kernel
theorem dL_law_879 : decode cL_law 879 = .ok (.if_icmp .ge 58, 3) := by decide +kernel
theorem dL_law_882 : decode cL_law 882 = .ok (.iload 4, 2) := by decide +kernel
theorem dL_law_884 : decode cL_law 884 = .ok (.bipush 20, 2) := by decide +kernel
theorem dL_law_886 : decode cL_law 886 = .ok (.if_icmp .ge 51, 3) := by decide +kernel
theorem dL_law_889 : decode cL_law 889 = .ok (.aload_n 2, 1) := by decide +kernel
theorem dL_law_890 : decode cL_law 890 = .ok (.iload 4, 2) := by decide +kernel
theorem dL_law_892 : decode cL_law 892 = .ok (.iconst 1, 1) := by decide +kernel
theorem dL_law_893 : decode cL_law 893 = .ok (.iload 10, 2) := by decide +kernel
theorem dL_law_895 : decode cL_law 895 = .ok (.bipush 9, 2) := by decide +kernel
theorem dL_law_897 : decode cL_law 897 = .ok (.ishr, 1) := by decide +kernel
theorem dL_law_898 : decode cL_law 898 = .ok (.iconst 4, 1) := by decide +kernel
theorem dL_law_899 : decode cL_law 899 = .ok (.irem, 1) := by decide +kernel
theorem dL_law_900 : decode cL_law 900 = .ok (.iadd, 1) := by decide +kernel
theorem dL_law_901 : decode cL_law 901 = .ok (.iastore, 1) := by decide +kernel
theorem dL_law_902 : decode cL_law 902 = .ok (.aload_n 1, 1) := by decide +kernel
theorem dL_law_903 : decode cL_law 903 = .ok (.bipush 7, 2) := by decide +kernel
theorem dL_law_905 : decode cL_law 905 = .ok (.iload 13, 2) := by decide +kernel
theorem dL_law_907 : decode cL_law 907 = .ok (.iload 10, 2) := by decide +kernel
theorem dL_law_909 : decode cL_law 909 = .ok (.iconst 3, 1) := by decide +kernel
theorem dL_law_910 : decode cL_law 910 = .ok (.irem, 1) := by decide +kernel
theorem dL_law_911 : decode cL_law 911 = .ok (.aload_n 2, 1) := by decide +kernel
theorem dL_law_912 : decode cL_law 912 = .ok (.iload 4, 2) := by decide +kernel
theorem dL_law_914 : decode cL_law 914 = .ok (.iaload, 1) := by decide +kernel
theorem dL_law_915 : decode cL_law 915 = .ok (.iconst 0, 1) := by decide +kernel
theorem dL_law_916 : decode cL_law 916 = .ok (.invokestatic 81, 3) := by decide +kernel
theorem dL_law_919 : decode cL_law 919 = .ok (.iload 4, 2) := by decide +kernel
theorem dL_law_921 : decode cL_law 921 = .ok (.if_icmp .ne 7, 3) := by decide +kernel
theorem dL_law_924 : decode cL_law 924 = .ok (.iconst 1, 1) := by decide +kernel
theorem dL_law_925 : decode cL_law 925 = .ok (.goto 4, 3) := by decide +kernel
theorem dL_law_928 : decode cL_law 928 = .ok (.iconst 0, 1) := by decide +kernel
theorem dL_law_929 : decode cL_law 929 = .ok (.istore 7, 2) := by decide +kernel
theorem dL_law_931 : decode cL_law 931 = .ok (.iinc 4 1, 3) := by decide +kernel
theorem dL_law_934 : decode cL_law 934 = .ok (.goto 292, 3) := by decide +kernel
theorem dL_law_937 : decode cL_law 937 = .ok (.iload 11, 2) := by decide +kernel
theorem dL_law_939 : decode cL_law 939 = .ok (.bipush 24, 2) := by decide +kernel
theorem dL_law_941 : decode cL_law 941 = .ok (.if_icmp .ne 90, 3) := by decide +kernel
theorem dL_law_944 : decode cL_law 944 = .ok (.iconst 0, 1) := by decide +kernel
theorem dL_law_945 : decode cL_law 945 = .ok (.istore 14, 2) := by decide +kernel
theorem dL_law_947 : decode cL_law 947 = .ok (.iconst 0, 1) := by decide +kernel
theorem dL_law_948 : decode cL_law 948 = .ok (.istore 15, 2) := by decide +kernel
theorem dL_law_950 : decode cL_law 950 = .ok (.iload 15, 2) := by decide +kernel
theorem dL_law_952 : decode cL_law 952 = .ok (.iload 4, 2) := by decide +kernel
theorem dL_law_954 : decode cL_law 954 = .ok (.if_icmp .ge 20, 3) := by decide +kernel
theorem dL_law_957 : decode cL_law 957 = .ok (.iload 14, 2) := by decide +kernel
theorem dL_law_959 : decode cL_law 959 = .ok (.aload_n 1, 1) := by decide +kernel
theorem dL_law_960 : decode cL_law 960 = .ok (.iload 15, 2) := by decide +kernel
theorem dL_law_962 : decode cL_law 962 = .ok (.invokevirtual 78, 3) := by decide +kernel
theorem dL_law_965 : decode cL_law 965 = .ok (.iadd, 1) := by decide +kernel
theorem dL_law_966 : decode cL_law 966 = .ok (.istore 14, 2) := by decide +kernel
theorem dL_law_968 : decode cL_law 968 = .ok (.iinc 15 1, 3) := by decide +kernel
theorem dL_law_971 : decode cL_law 971 = .ok (.goto (-21), 3) := by decide +kernel
theorem dL_law_974 : decode cL_law 974 = .ok (.aload_n 1, 1) := by decide +kernel
theorem dL_law_975 : decode cL_law 975 = .ok (.invokevirtual 93, 3) := by decide +kernel
theorem dL_law_978 : decode cL_law 978 = .ok (.istore 15, 2) := by decide +kernel
theorem dL_law_980 : decode cL_law 980 = .ok (.iconst 0, 1) := by decide +kernel
theorem dL_law_981 : decode cL_law 981 = .ok (.istore 16, 2) := by decide +kernel
theorem dL_law_983 : decode cL_law 983 = .ok (.iload 16, 2) := by decide +kernel
theorem dL_law_985 : decode cL_law 985 = .ok (.iload 4, 2) := by decide +kernel
theorem dL_law_987 : decode cL_law 987 = .ok (.if_icmp .ge 20, 3) := by decide +kernel
theorem dL_law_990 : decode cL_law 990 = .ok (.iload 14, 2) := by decide +kernel
theorem dL_law_992 : decode cL_law 992 = .ok (.aload_n 1, 1) := by decide +kernel
theorem dL_law_993 : decode cL_law 993 = .ok (.iload 16, 2) := by decide +kernel
theorem dL_law_995 : decode cL_law 995 = .ok (.invokevirtual 78, 3) := by decide +kernel
theorem dL_law_998 : decode cL_law 998 = .ok (.isub, 1) := by decide +kernel
theorem dL_law_999 : decode cL_law 999 = .ok (.istore 14, 2) := by decide +kernel
theorem dL_law_1001 : decode cL_law 1001 = .ok (.iinc 16 1, 3) := by decide +kernel
theorem dL_law_1004 : decode cL_law 1004 = .ok (.goto (-21), 3) := by decide +kernel
theorem dL_law_1007 : decode cL_law 1007 = .ok (.iload 15, 2) := by decide +kernel
theorem dL_law_1009 : decode cL_law 1009 = .ok (.iload 14, 2) := by decide +kernel
theorem dL_law_1011 : decode cL_law 1011 = .ok (.if_icmp .ne 14, 3) := by decide +kernel
theorem dL_law_1014 : decode cL_law 1014 = .ok (.aload_n 1, 1) := by decide +kernel
theorem dL_law_1015 : decode cL_law 1015 = .ok (.invokevirtual 93, 3) := by decide +kernel
theorem dL_law_1018 : decode cL_law 1018 = .ok (.ifCond .ne 7, 3) := by decide +kernel
theorem dL_law_1021 : decode cL_law 1021 = .ok (.iconst 1, 1) := by decide +kernel
theorem dL_law_1022 : decode cL_law 1022 = .ok (.goto 4, 3) := by decide +kernel
theorem dL_law_1025 : decode cL_law 1025 = .ok (.iconst 0, 1) := by decide +kernel
theorem dL_law_1026 : decode cL_law 1026 = .ok (.istore 7, 2) := by decide +kernel
theorem dL_law_1028 : decode cL_law 1028 = .ok (.goto 198, 3) := by decide +kernel
theorem dL_law_1031 : decode cL_law 1031 = .ok (.iload 11, 2) := by decide +kernel
theorem dL_law_1033 : decode cL_law 1033 = .ok (.bipush 25, 2) := by decide +kernel
theorem dL_law_1035 : decode cL_law 1035 = .ok (.if_icmp .ne 79, 3) := by decide +kernel
theorem dL_law_1038 : decode cL_law 1038 = .ok (.iload 4, 2) := by decide +kernel
theorem dL_law_1040 : decode cL_law 1040 = .ok (.ifCond .le 74, 3) := by decide +kernel
theorem dL_law_1043 : decode cL_law 1043 = .ok (.iload 10, 2) := by decide +kernel
theorem dL_law_1045 : decode cL_law 1045 = .ok (.bipush 9, 2) := by decide +kernel
theorem dL_law_1047 : decode cL_law 1047 = .ok (.ishr, 1) := by decide +kernel
theorem dL_law_1048 : decode cL_law 1048 = .ok (.iload 4, 2) := by decide +kernel
theorem dL_law_1050 : decode cL_law 1050 = .ok (.irem, 1) := by decide +kernel
theorem dL_law_1051 : decode cL_law 1051 = .ok (.istore 14, 2) := by decide +kernel
theorem dL_law_1053 : decode cL_law 1053 = .ok (.aload_n 2, 1) := by decide +kernel
theorem dL_law_1054 : decode cL_law 1054 = .ok (.iload 14, 2) := by decide +kernel
theorem dL_law_1056 : decode cL_law 1056 = .ok (.iaload, 1) := by decide +kernel
theorem dL_law_1057 : decode cL_law 1057 = .ok (.aload_n 1, 1) := by decide +kernel
theorem dL_law_1058 : decode cL_law 1058 = .ok (.iload 14, 2) := by decide +kernel
theorem dL_law_1060 : decode cL_law 1060 = .ok (.invokevirtual 78, 3) := by decide +kernel
theorem dL_law_1063 : decode cL_law 1063 = .ok (.isub, 1) := by decide +kernel
theorem dL_law_1064 : decode cL_law 1064 = .ok (.istore 15, 2) := by decide +kernel
theorem dL_law_1066 : decode cL_law 1066 = .ok (.aload_n 1, 1) := by decide +kernel
theorem dL_law_1067 : decode cL_law 1067 = .ok (.bipush 8, 2) := by decide +kernel
theorem dL_law_1069 : decode cL_law 1069 = .ok (.iload 14, 2) := by decide +kernel
theorem dL_law_1071 : decode cL_law 1071 = .ok (.iconst 0, 1) := by decide +kernel
theorem dL_law_1072 : decode cL_law 1072 = .ok (.iconst 0, 1) := by decide +kernel
theorem dL_law_1073 : decode cL_law 1073 = .ok (.iconst 0, 1) := by decide +kernel
theorem dL_law_1074 : decode cL_law 1074 = .ok (.invokestatic 81, 3) := by decide +kernel
theorem dL_law_1077 : decode cL_law 1077 = .ok (.istore 16, 2) := by decide +kernel
theorem dL_law_1079 : decode cL_law 1079 = .ok (.iload 16, 2) := by decide +kernel
theorem dL_law_1081 : decode cL_law 1081 = .ok (.aload_n 2, 1) := by decide +kernel
theorem dL_law_1082 : decode cL_law 1082 = .ok (.iload 14, 2) := by decide +kernel
theorem dL_law_1084 : decode cL_law 1084 = .ok (.iaload, 1) := by decide +kernel
theorem dL_law_1085 : decode cL_law 1085 = .ok (.ifCond .ne 9, 3) := by decide +kernel
theorem dL_law_1088 : decode cL_law 1088 = .ok (.sipush (-1013), 3) := by decide +kernel
theorem dL_law_1091 : decode cL_law 1091 = .ok (.goto 5, 3) := by decide +kernel
theorem dL_law_1094 : decode cL_law 1094 = .ok (.iload 15, 2) := by decide +kernel
theorem dL_law_1096 : decode cL_law 1096 = .ok (.if_icmp .ne 7, 3) := by decide +kernel
theorem dL_law_1099 : decode cL_law 1099 = .ok (.iconst 1, 1) := by decide +kernel
theorem dL_law_1100 : decode cL_law 1100 = .ok (.goto 4, 3) := by decide +kernel
theorem dL_law_1103 : decode cL_law 1103 = .ok (.iconst 0, 1) := by decide +kernel
theorem dL_law_1104 : decode cL_law 1104 = .ok (.istore 7, 2) := by decide +kernel
theorem dL_law_1106 : decode cL_law 1106 = .ok (.aload_n 2, 1) := by decide +kernel
theorem dL_law_1107 : decode cL_law 1107 = .ok (.iload 14, 2) := by decide +kernel
theorem dL_law_1109 : decode cL_law 1109 = .ok (.iconst 0, 1) := by decide +kernel
theorem dL_law_1110 : decode cL_law 1110 = .ok (.iastore, 1) := by decide +kernel
theorem dL_law_1111 : decode cL_law 1111 = .ok (.goto 115, 3) := by decide +kernel
theorem dL_law_1114 : decode cL_law 1114 = .ok (.iload 11, 2) := by decide +kernel
theorem dL_law_1116 : decode cL_law 1116 = .ok (.bipush 26, 2) := by decide +kernel
theorem dL_law_1118 : decode cL_law 1118 = .ok (.if_icmp .ne 47, 3) := by decide +kernel
theorem dL_law_1121 : decode cL_law 1121 = .ok (.iload 5, 2) := by decide +kernel
theorem dL_law_1123 : decode cL_law 1123 = .ok (.iconst 1, 1) := by decide +kernel
theorem dL_law_1124 : decode cL_law 1124 = .ok (.iload 10, 2) := by decide +kernel
theorem dL_law_1126 : decode cL_law 1126 = .ok (.bipush 9, 2) := by decide +kernel
theorem dL_law_1128 : decode cL_law 1128 = .ok (.ishr, 1) := by decide +kernel
theorem dL_law_1129 : decode cL_law 1129 = .ok (.bipush 9, 2) := by decide +kernel
theorem dL_law_1131 : decode cL_law 1131 = .ok (.irem, 1) := by decide +kernel
theorem dL_law_1132 : decode cL_law 1132 = .ok (.iadd, 1) := by decide +kernel
theorem dL_law_1133 : decode cL_law 1133 = .ok (.iadd, 1) := by decide +kernel
theorem dL_law_1134 : decode cL_law 1134 = .ok (.istore 5, 2) := by decide +kernel
theorem dL_law_1136 : decode cL_law 1136 = .ok (.aload_n 1, 1) := by decide +kernel
theorem dL_law_1137 : decode cL_law 1137 = .ok (.iconst 1, 1) := by decide +kernel
theorem dL_law_1138 : decode cL_law 1138 = .ok (.iload 10, 2) := by decide +kernel
theorem dL_law_1140 : decode cL_law 1140 = .ok (.bipush 9, 2) := by decide +kernel
theorem dL_law_1142 : decode cL_law 1142 = .ok (.ishr, 1) := by decide +kernel
theorem dL_law_1143 : decode cL_law 1143 = .ok (.bipush 9, 2) := by decide +kernel
theorem dL_law_1145 : decode cL_law 1145 = .ok (.irem, 1) := by decide +kernel
theorem dL_law_1146 : decode cL_law 1146 = .ok (.iadd, 1) := by decide +kernel
theorem dL_law_1147 : decode cL_law 1147 = .ok (.invokevirtual 97, 3) := by decide +kernel
theorem dL_law_1150 : decode cL_law 1150 = .ok (.iload 5, 2) := by decide +kernel
theorem dL_law_1152 : decode cL_law 1152 = .ok (.if_icmp .ne 7, 3) := by decide +kernel
theorem dL_law_1155 : decode cL_law 1155 = .ok (.iconst 1, 1) := by decide +kernel
theorem dL_law_1156 : decode cL_law 1156 = .ok (.goto 4, 3) := by decide +kernel
theorem dL_law_1159 : decode cL_law 1159 = .ok (.iconst 0, 1) := by decide +kernel
theorem dL_law_1160 : decode cL_law 1160 = .ok (.istore 7, 2) := by decide +kernel
theorem dL_law_1162 : decode cL_law 1162 = .ok (.goto 64, 3) := by decide +kernel
theorem dL_law_1165 : decode cL_law 1165 = .ok (.iload 6, 2) := by decide +kernel
theorem dL_law_1167 : decode cL_law 1167 = .ok (.bipush 30, 2) := by decide +kernel
theorem dL_law_1169 : decode cL_law 1169 = .ok (.if_icmp .ge 57, 3) := by decide +kernel
theorem dL_law_1172 : decode cL_law 1172 = .ok (.iinc 6 1, 3) := by decide +kernel
theorem dL_law_1175 : decode cL_law 1175 = .ok (.aload_n 1, 1) := by decide +kernel
theorem dL_law_1176 : decode cL_law 1176 = .ok (.iload_n 3, 1) := by decide +kernel
theorem dL_law_1177 : decode cL_law 1177 = .ok (.iload 10, 2) := by decide +kernel
theorem dL_law_1179 : decode cL_law 1179 = .ok (.bipush 9, 2) := by decide +kernel
theorem dL_law_1181 : decode cL_law 1181 = .ok (.ishr, 1) := by decide +kernel
theorem dL_law_1182 : decode cL_law 1182 = .ok (.iload 5, 2) := by decide +kernel
theorem dL_law_1184 : decode cL_law 1184 = .ok (.iconst 3, 1) := by decide +kernel
theorem dL_law_1185 : decode cL_law 1185 = .ok (.iadd, 1) := by decide +kernel
theorem dL_law_1186 : decode cL_law 1186 = .ok (.irem, 1) := by decide +kernel
theorem dL_law_1187 : decode cL_law 1187 = .ok (.iload 12, 2) := by decide +kernel
theorem dL_law_1189 : decode cL_law 1189 = .ok (.invokestatic 100, 3) := by decide +kernel
theorem dL_law_1192 : decode cL_law 1192 = .ok (.ifCond .eq 31, 3) := by decide +kernel
theorem dL_law_1195 : decode cL_law 1195 = .ok (.aload_n 1, 1) := by decide +kernel
theorem dL_law_1196 : decode cL_law 1196 = .ok (.iload_n 3, 1) := by decide +kernel
theorem dL_law_1197 : decode cL_law 1197 = .ok (.aload_n 2, 1) := by decide +kernel
theorem dL_law_1198 : decode cL_law 1198 = .ok (.iload 4, 2) := by decide +kernel
theorem dL_law_1200 : decode cL_law 1200 = .ok (.invokestatic 104, 3) := by decide +kernel
theorem dL_law_1203 : decode cL_law 1203 = .ok (.ifCond .eq 20, 3) := by decide +kernel
theorem dL_law_1206 : decode cL_law 1206 = .ok (.aload_n 1, 1) := by decide +kernel
theorem dL_law_1207 : decode cL_law 1207 = .ok (.iload 5, 2) := by decide +kernel
theorem dL_law_1209 : decode cL_law 1209 = .ok (.iload 10, 2) := by decide +kernel
theorem dL_law_1211 : decode cL_law 1211 = .ok (.iconst 3, 1) := by decide +kernel
theorem dL_law_1212 : decode cL_law 1212 = .ok (.irem, 1) := by decide +kernel
theorem dL_law_1213 : decode cL_law 1213 = .ok (.invokestatic 108, 3) := by decide +kernel
theorem dL_law_1216 : decode cL_law 1216 = .ok (.ifCond .eq 7, 3) := by decide +kernel
theorem dL_law_1219 : decode cL_law 1219 = .ok (.iconst 1, 1) := by decide +kernel
theorem dL_law_1220 : decode cL_law 1220 = .ok (.goto 4, 3) := by decide +kernel
theorem dL_law_1223 : decode cL_law 1223 = .ok (.iconst 0, 1) := by decide +kernel
theorem dL_law_1224 : decode cL_law 1224 = .ok (.istore 7, 2) := by decide +kernel
theorem dL_law_1226 : decode cL_law 1226 = .ok (.iinc 9 1, 3) := by decide +kernel
theorem dL_law_1229 : decode cL_law 1229 = .ok (.goto (-1167), 3) := by decide +kernel
theorem dL_law_1232 : decode cL_law 1232 = .ok (.iload 7, 2) := by decide +kernel
theorem dL_law_1234 : decode cL_law 1234 = .ok (.ireturn, 1) := by decide +kernel
