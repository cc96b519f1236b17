theorem d_R_act_0 : decode b_R_act 0 = .ok (.aload_n 0, 1) := by decide +kernel
theorem d_R_act_1 : decode b_R_act 1 = .ok (.aload_n 0, 1) := by decide +kernel
theorem d_R_act_2 : decode b_R_act 2 = .ok (.getfield 91, 3) := by decide +kernel
theorem d_R_act_5 : decode b_R_act 5 = .ok (.ifCond .ne 7, 3) := by decide +kernel
theorem d_R_act_8 : decode b_R_act 8 = .ok (.iconst 1, 1) := by decide +kernel
theorem d_R_act_9 : decode b_R_act 9 = .ok (.goto 4, 3) := by decide +kernel
theorem d_R_act_12 : decode b_R_act 12 = .ok (.iconst 0, 1) := by decide +kernel
theorem d_R_act_13 : decode b_R_act 13 = .ok (.aload_n 0, 1) := by decide +kernel
theorem d_R_act_14 : decode b_R_act 14 = .ok (.getfield 91, 3) := by decide +kernel
theorem d_R_act_17 : decode b_R_act 17 = .ok (.ifCond .le 16, 3) := by decide +kernel
theorem d_R_act_20 : decode b_R_act 20 = .ok (.iload_n 1, 1) := by decide +kernel
theorem d_R_act_21 : decode b_R_act 21 = .ok (.bipush 12, 2) := by decide +kernel
theorem d_R_act_23 : decode b_R_act 23 = .ok (.invokestatic 94, 3) := by decide +kernel
theorem d_R_act_26 : decode b_R_act 26 = .ok (.ifCond .eq 7, 3) := by decide +kernel
theorem d_R_act_29 : decode b_R_act 29 = .ok (.iconst 1, 1) := by decide +kernel
theorem d_R_act_30 : decode b_R_act 30 = .ok (.goto 4, 3) := by decide +kernel
theorem d_R_act_33 : decode b_R_act 33 = .ok (.iconst 0, 1) := by decide +kernel
theorem d_R_act_34 : decode b_R_act 34 = .ok (.invokevirtual 101, 3) := by decide +kernel
theorem d_R_act_37 : decode b_R_act 37 = .ok (.ifCond .eq 5, 3) := by decide +kernel
theorem d_R_act_40 : decode b_R_act 40 = .ok (.iconst 0, 1) := by decide +kernel
theorem d_R_act_41 : decode b_R_act 41 = .ok (.ireturn, 1) := by decide +kernel
theorem d_R_act_42 : decode b_R_act 42 = .ok (.aload_n 0, 1) := by decide +kernel
theorem d_R_act_43 : decode b_R_act 43 = .ok (.getfield 44, 3) := by decide +kernel
theorem d_R_act_46 : decode b_R_act 46 = .ok (.bipush 12, 2) := by decide +kernel
theorem d_R_act_48 : decode b_R_act 48 = .ok (.aload_n 0, 1) := by decide +kernel
theorem d_R_act_49 : decode b_R_act 49 = .ok (.getfield 151, 3) := by decide +kernel
theorem d_R_act_52 : decode b_R_act 52 = .ok (.imul, 1) := by decide +kernel
theorem d_R_act_53 : decode b_R_act 53 = .ok (.iload_n 1, 1) := by decide +kernel
theorem d_R_act_54 : decode b_R_act 54 = .ok (.iadd, 1) := by decide +kernel
theorem d_R_act_55 : decode b_R_act 55 = .ok (.baload, 1) := by decide +kernel
theorem d_R_act_56 : decode b_R_act 56 = .ok (.ifCond .ne 5, 3) := by decide +kernel
theorem d_R_act_59 : decode b_R_act 59 = .ok (.iconst 0, 1) := by decide +kernel
theorem d_R_act_60 : decode b_R_act 60 = .ok (.ireturn, 1) := by decide +kernel
theorem d_R_act_61 : decode b_R_act 61 = .ok (.aload_n 0, 1) := by decide +kernel
theorem d_R_act_62 : decode b_R_act 62 = .ok (.iconst 0, 1) := by decide +kernel
theorem d_R_act_63 : decode b_R_act 63 = .ok (.aload_n 0, 1) := by decide +kernel
theorem d_R_act_64 : decode b_R_act 64 = .ok (.getfield 151, 3) := by decide +kernel
theorem d_R_act_67 : decode b_R_act 67 = .ok (.iload_n 1, 1) := by decide +kernel
theorem d_R_act_68 : decode b_R_act 68 = .ok (.invokevirtual 135, 3) := by decide +kernel
theorem d_R_act_71 : decode b_R_act 71 = .ok (.ifCond .ge 5, 3) := by decide +kernel
theorem d_R_act_74 : decode b_R_act 74 = .ok (.iconst 1, 1) := by decide +kernel
theorem d_R_act_75 : decode b_R_act 75 = .ok (.ireturn, 1) := by decide +kernel
theorem d_R_act_76 : decode b_R_act 76 = .ok (.aload_n 0, 1) := by decide +kernel
theorem d_R_act_77 : decode b_R_act 77 = .ok (.aload_n 0, 1) := by decide +kernel
theorem d_R_act_78 : decode b_R_act 78 = .ok (.iconst 0, 1) := by decide +kernel
theorem d_R_act_79 : decode b_R_act 79 = .ok (.aload_n 0, 1) := by decide +kernel
theorem d_R_act_80 : decode b_R_act 80 = .ok (.getfield 151, 3) := by decide +kernel
theorem d_R_act_83 : decode b_R_act 83 = .ok (.iload_n 1, 1) := by decide +kernel
theorem d_R_act_84 : decode b_R_act 84 = .ok (.invokevirtual 135, 3) := by decide +kernel
theorem d_R_act_87 : decode b_R_act 87 = .ok (.putfield 151, 3) := by decide +kernel
theorem d_R_act_90 : decode b_R_act 90 = .ok (.iconst 2, 1) := by decide +kernel
theorem d_R_act_91 : decode b_R_act 91 = .ok (.ireturn, 1) := by decide +kernel
theorem d_R_after_0 : decode b_R_after 0 = .ok (.iconst 0, 1) := by decide +kernel
theorem d_R_after_1 : decode b_R_after 1 = .ok (.istore 4, 2) := by decide +kernel
theorem d_R_after_3 : decode b_R_after 3 = .ok (.iconst 1, 1) := by decide +kernel
theorem d_R_after_4 : decode b_R_after 4 = .ok (.istore 5, 2) := by decide +kernel
theorem d_R_after_6 : decode b_R_after 6 = .ok (.iconst 1, 1) := by decide +kernel
theorem d_R_after_7 : decode b_R_after 7 = .ok (.istore 6, 2) := by decide +kernel
theorem d_R_after_9 : decode b_R_after 9 = .ok (.iconst 0, 1) := by decide +kernel
theorem d_R_after_10 : decode b_R_after 10 = .ok (.istore 7, 2) := by decide +kernel
theorem d_R_after_12 : decode b_R_after 12 = .ok (.iconst 1, 1) := by decide +kernel
theorem d_R_after_13 : decode b_R_after 13 = .ok (.istore 8, 2) := by decide +kernel
theorem d_R_after_15 : decode b_R_after 15 = .ok (.iconst 0, 1) := by decide +kernel
theorem d_R_after_16 : decode b_R_after 16 = .ok (.istore 9, 2) := by decide +kernel
theorem d_R_after_18 : decode b_R_after 18 = .ok (.iload 9, 2) := by decide +kernel
theorem d_R_after_20 : decode b_R_after 20 = .ok (.aload_n 0, 1) := by decide +kernel
theorem d_R_after_21 : decode b_R_after 21 = .ok (.getfield 98, 3) := by decide +kernel
theorem d_R_after_24 : decode b_R_after 24 = .ok (.if_icmp .ge 154, 3) := by decide +kernel
theorem d_R_after_27 : decode b_R_after 27 = .ok (.iload_n 1, 1) := by decide +kernel
theorem d_R_after_28 : decode b_R_after 28 = .ok (.iload 9, 2) := by decide +kernel
theorem d_R_after_30 : decode b_R_after 30 = .ok (.invokestatic 114, 3) := by decide +kernel
theorem d_R_after_33 : decode b_R_after 33 = .ok (.istore 10, 2) := by decide +kernel
theorem d_R_after_35 : decode b_R_after 35 = .ok (.aload_n 0, 1) := by decide +kernel
theorem d_R_after_36 : decode b_R_after 36 = .ok (.iload 9, 2) := by decide +kernel
theorem d_R_after_38 : decode b_R_after 38 = .ok (.iload_n 3, 1) := by decide +kernel
theorem d_R_after_39 : decode b_R_after 39 = .ok (.invokevirtual 111, 3) := by decide +kernel
theorem d_R_after_42 : decode b_R_after 42 = .ok (.ifCond .eq 113, 3) := by decide +kernel
theorem d_R_after_45 : decode b_R_after 45 = .ok (.aload_n 0, 1) := by decide +kernel
theorem d_R_after_46 : decode b_R_after 46 = .ok (.iload 9, 2) := by decide +kernel
theorem d_R_after_48 : decode b_R_after 48 = .ok (.iload_n 2, 1) := by decide +kernel
theorem d_R_after_49 : decode b_R_after 49 = .ok (.invokevirtual 118, 3) := by decide +kernel
theorem d_R_after_52 : decode b_R_after 52 = .ok (.ifCond .eq 103, 3) := by decide +kernel
theorem d_R_after_55 : decode b_R_after 55 = .ok (.iload 4, 2) := by decide +kernel
theorem d_R_after_57 : decode b_R_after 57 = .ok (.ifCond .ne 13, 3) := by decide +kernel
theorem d_R_after_60 : decode b_R_after 60 = .ok (.aload_n 0, 1) := by decide +kernel
theorem d_R_after_61 : decode b_R_after 61 = .ok (.getfield 13, 3) := by decide +kernel
theorem d_R_after_64 : decode b_R_after 64 = .ok (.iload 9, 2) := by decide +kernel
theorem d_R_after_66 : decode b_R_after 66 = .ok (.baload, 1) := by decide +kernel
theorem d_R_after_67 : decode b_R_after 67 = .ok (.ifCond .eq 7, 3) := by decide +kernel
theorem d_R_after_70 : decode b_R_after 70 = .ok (.iconst 1, 1) := by decide +kernel
theorem d_R_after_71 : decode b_R_after 71 = .ok (.goto 4, 3) := by decide +kernel
theorem d_R_after_74 : decode b_R_after 74 = .ok (.iconst 0, 1) := by decide +kernel
theorem d_R_after_75 : decode b_R_after 75 = .ok (.istore 4, 2) := by decide +kernel
theorem d_R_after_77 : decode b_R_after 77 = .ok (.aload_n 0, 1) := by decide +kernel
theorem d_R_after_78 : decode b_R_after 78 = .ok (.getfield 26, 3) := by decide +kernel
theorem d_R_after_81 : decode b_R_after 81 = .ok (.bipush 72, 2) := by decide +kernel
theorem d_R_after_83 : decode b_R_after 83 = .ok (.iload 9, 2) := by decide +kernel
theorem d_R_after_85 : decode b_R_after 85 = .ok (.imul, 1) := by decide +kernel
theorem d_R_after_86 : decode b_R_after 86 = .ok (.bipush 12, 2) := by decide +kernel
theorem d_R_after_88 : decode b_R_after 88 = .ok (.iload 10, 2) := by decide +kernel
theorem d_R_after_90 : decode b_R_after 90 = .ok (.imul, 1) := by decide +kernel
theorem d_R_after_91 : decode b_R_after 91 = .ok (.iadd, 1) := by decide +kernel
theorem d_R_after_92 : decode b_R_after 92 = .ok (.iload_n 2, 1) := by decide +kernel
theorem d_R_after_93 : decode b_R_after 93 = .ok (.iadd, 1) := by decide +kernel
theorem d_R_after_94 : decode b_R_after 94 = .ok (.iaload, 1) := by decide +kernel
theorem d_R_after_95 : decode b_R_after 95 = .ok (.istore 11, 2) := by decide +kernel
theorem d_R_after_97 : decode b_R_after 97 = .ok (.iload 5, 2) := by decide +kernel
theorem d_R_after_99 : decode b_R_after 99 = .ok (.ifCond .eq 22, 3) := by decide +kernel
theorem d_R_after_102 : decode b_R_after 102 = .ok (.iload 11, 2) := by decide +kernel
theorem d_R_after_104 : decode b_R_after 104 = .ok (.ifCond .ge 13, 3) := by decide +kernel
theorem d_R_after_107 : decode b_R_after 107 = .ok (.aload_n 0, 1) := by decide +kernel
theorem d_R_after_108 : decode b_R_after 108 = .ok (.getfield 13, 3) := by decide +kernel
theorem d_R_after_111 : decode b_R_after 111 = .ok (.iload 9, 2) := by decide +kernel
theorem d_R_after_113 : decode b_R_after 113 = .ok (.baload, 1) := by decide +kernel
theorem d_R_after_114 : decode b_R_after 114 = .ok (.ifCond .ne 7, 3) := by decide +kernel
theorem d_R_after_117 : decode b_R_after 117 = .ok (.iconst 1, 1) := by decide +kernel
theorem d_R_after_118 : decode b_R_after 118 = .ok (.goto 4, 3) := by decide +kernel
theorem d_R_after_121 : decode b_R_after 121 = .ok (.iconst 0, 1) := by decide +kernel
theorem d_R_after_122 : decode b_R_after 122 = .ok (.istore 5, 2) := by decide +kernel
theorem d_R_after_124 : decode b_R_after 124 = .ok (.iload 6, 2) := by decide +kernel
theorem d_R_after_126 : decode b_R_after 126 = .ok (.ifCond .eq 22, 3) := by decide +kernel
theorem d_R_after_129 : decode b_R_after 129 = .ok (.iload 11, 2) := by decide +kernel
theorem d_R_after_131 : decode b_R_after 131 = .ok (.ifCond .ge 13, 3) := by decide +kernel
theorem d_R_after_134 : decode b_R_after 134 = .ok (.aload_n 0, 1) := by decide +kernel
theorem d_R_after_135 : decode b_R_after 135 = .ok (.getfield 13, 3) := by decide +kernel
theorem d_R_after_138 : decode b_R_after 138 = .ok (.iload 9, 2) := by decide +kernel
theorem d_R_after_140 : decode b_R_after 140 = .ok (.baload, 1) := by decide +kernel
theorem d_R_after_141 : decode b_R_after 141 = .ok (.ifCond .eq 7, 3) := by decide +kernel
theorem d_R_after_144 : decode b_R_after 144 = .ok (.iconst 1, 1) := by decide +kernel
theorem d_R_after_145 : decode b_R_after 145 = .ok (.goto 4, 3) := by decide +kernel
theorem d_R_after_148 : decode b_R_after 148 = .ok (.iconst 0, 1) := by decide +kernel
theorem d_R_after_149 : decode b_R_after 149 = .ok (.istore 6, 2) := by decide +kernel
theorem d_R_after_151 : decode b_R_after 151 = .ok (.iload 11, 2) := by decide +kernel
theorem d_R_after_153 : decode b_R_after 153 = .ok (.istore 10, 2) := by decide +kernel
theorem d_R_after_155 : decode b_R_after 155 = .ok (.iload 7, 2) := by decide +kernel
theorem d_R_after_157 : decode b_R_after 157 = .ok (.iload 8, 2) := by decide +kernel
theorem d_R_after_159 : decode b_R_after 159 = .ok (.iload 10, 2) := by decide +kernel
theorem d_R_after_161 : decode b_R_after 161 = .ok (.imul, 1) := by decide +kernel
theorem d_R_after_162 : decode b_R_after 162 = .ok (.iadd, 1) := by decide +kernel
theorem d_R_after_163 : decode b_R_after 163 = .ok (.istore 7, 2) := by decide +kernel
theorem d_R_after_165 : decode b_R_after 165 = .ok (.bipush 6, 2) := by decide +kernel
theorem d_R_after_167 : decode b_R_after 167 = .ok (.iload 8, 2) := by decide +kernel
theorem d_R_after_169 : decode b_R_after 169 = .ok (.imul, 1) := by decide +kernel
theorem d_R_after_170 : decode b_R_after 170 = .ok (.istore 8, 2) := by decide +kernel
theorem d_R_after_172 : decode b_R_after 172 = .ok (.iinc 9 1, 3) := by decide +kernel
theorem d_R_after_175 : decode b_R_after 175 = .ok (.goto (-157), 3) := by decide +kernel
theorem d_R_after_178 : decode b_R_after 178 = .ok (.iload 4, 2) := by decide +kernel
theorem d_R_after_180 : decode b_R_after 180 = .ok (.ifCond .eq 8, 3) := by decide +kernel
theorem d_R_after_183 : decode b_R_after 183 = .ok (.iload 5, 2) := by decide +kernel
theorem d_R_after_185 : decode b_R_after 185 = .ok (.ifCond .ne 8, 3) := by decide +kernel
theorem d_R_after_188 : decode b_R_after 188 = .ok (.bipush (-2), 2) := by decide +kernel
theorem d_R_after_190 : decode b_R_after 190 = .ok (.goto 14, 3) := by decide +kernel
theorem d_R_after_193 : decode b_R_after 193 = .ok (.iload 6, 2) := by decide +kernel
theorem d_R_after_195 : decode b_R_after 195 = .ok (.ifCond .eq 8, 3) := by decide +kernel
theorem d_R_after_198 : decode b_R_after 198 = .ok (.iload 7, 2) := by decide +kernel
theorem d_R_after_200 : decode b_R_after 200 = .ok (.goto 4, 3) := by decide +kernel
theorem d_R_after_203 : decode b_R_after 203 = .ok (.iconst (-1), 1) := by decide +kernel
theorem d_R_after_204 : decode b_R_after 204 = .ok (.ireturn, 1) := by decide +kernel
theorem d_R_allowed_0 : decode b_R_allowed 0 = .ok (.aload_n 0, 1) := by decide +kernel
theorem d_R_allowed_1 : decode b_R_allowed 1 = .ok (.aload_n 0, 1) := by decide +kernel
theorem d_R_allowed_2 : decode b_R_allowed 2 = .ok (.getfield 91, 3) := by decide +kernel
theorem d_R_allowed_5 : decode b_R_allowed 5 = .ok (.ifCond .ne 7, 3) := by decide +kernel
theorem d_R_allowed_8 : decode b_R_allowed 8 = .ok (.iconst 1, 1) := by decide +kernel
theorem d_R_allowed_9 : decode b_R_allowed 9 = .ok (.goto 4, 3) := by decide +kernel
theorem d_R_allowed_12 : decode b_R_allowed 12 = .ok (.iconst 0, 1) := by decide +kernel
theorem d_R_allowed_13 : decode b_R_allowed 13 = .ok (.iconst 0, 1) := by decide +kernel
theorem d_R_allowed_14 : decode b_R_allowed 14 = .ok (.invokevirtual 101, 3) := by decide +kernel
theorem d_R_allowed_17 : decode b_R_allowed 17 = .ok (.ifCond .eq 5, 3) := by decide +kernel
theorem d_R_allowed_20 : decode b_R_allowed 20 = .ok (.iconst 0, 1) := by decide +kernel
theorem d_R_allowed_21 : decode b_R_allowed 21 = .ok (.ireturn, 1) := by decide +kernel
theorem d_R_allowed_22 : decode b_R_allowed 22 = .ok (.iconst 0, 1) := by decide +kernel
theorem d_R_allowed_23 : decode b_R_allowed 23 = .ok (.istore_n 1, 1) := by decide +kernel
theorem d_R_allowed_24 : decode b_R_allowed 24 = .ok (.iconst 0, 1) := by decide +kernel
theorem d_R_allowed_25 : decode b_R_allowed 25 = .ok (.istore_n 2, 1) := by decide +kernel
theorem d_R_allowed_26 : decode b_R_allowed 26 = .ok (.iload_n 2, 1) := by decide +kernel
theorem d_R_allowed_27 : decode b_R_allowed 27 = .ok (.bipush 12, 2) := by decide +kernel
theorem d_R_allowed_29 : decode b_R_allowed 29 = .ok (.if_icmp .ge 32, 3) := by decide +kernel
theorem d_R_allowed_32 : decode b_R_allowed 32 = .ok (.aload_n 0, 1) := by decide +kernel
theorem d_R_allowed_33 : decode b_R_allowed 33 = .ok (.iconst 0, 1) := by decide +kernel
theorem d_R_allowed_34 : decode b_R_allowed 34 = .ok (.aload_n 0, 1) := by decide +kernel
theorem d_R_allowed_35 : decode b_R_allowed 35 = .ok (.getfield 151, 3) := by decide +kernel
theorem d_R_allowed_38 : decode b_R_allowed 38 = .ok (.iload_n 2, 1) := by decide +kernel
theorem d_R_allowed_39 : decode b_R_allowed 39 = .ok (.invokevirtual 135, 3) := by decide +kernel
theorem d_R_allowed_42 : decode b_R_allowed 42 = .ok (.ifCond .lt 11, 3) := by decide +kernel
theorem d_R_allowed_45 : decode b_R_allowed 45 = .ok (.iload_n 1, 1) := by decide +kernel
theorem d_R_allowed_46 : decode b_R_allowed 46 = .ok (.iconst 1, 1) := by decide +kernel
theorem d_R_allowed_47 : decode b_R_allowed 47 = .ok (.iload_n 2, 1) := by decide +kernel
theorem d_R_allowed_48 : decode b_R_allowed 48 = .ok (.ishl, 1) := by decide +kernel
theorem d_R_allowed_49 : decode b_R_allowed 49 = .ok (.iadd, 1) := by decide +kernel
theorem d_R_allowed_50 : decode b_R_allowed 50 = .ok (.goto 4, 3) := by decide +kernel
theorem d_R_allowed_53 : decode b_R_allowed 53 = .ok (.iload_n 1, 1) := by decide +kernel
theorem d_R_allowed_54 : decode b_R_allowed 54 = .ok (.istore_n 1, 1) := by decide +kernel
theorem d_R_allowed_55 : decode b_R_allowed 55 = .ok (.iinc 2 1, 3) := by decide +kernel
theorem d_R_allowed_58 : decode b_R_allowed 58 = .ok (.goto (-32), 3) := by decide +kernel
theorem d_R_allowed_61 : decode b_R_allowed 61 = .ok (.iload_n 1, 1) := by decide +kernel
theorem d_R_allowed_62 : decode b_R_allowed 62 = .ok (.ireturn, 1) := by decide +kernel
theorem d_R_automaton_0 : decode b_R_automaton 0 = .ok (.iload_n 1, 1) := by decide +kernel
theorem d_R_automaton_1 : decode b_R_automaton 1 = .ok (.iconst 1, 1) := by decide +kernel
theorem d_R_automaton_2 : decode b_R_automaton 2 = .ok (.if_icmp .lt 17, 3) := by decide +kernel
theorem d_R_automaton_5 : decode b_R_automaton 5 = .ok (.iload_n 1, 1) := by decide +kernel
theorem d_R_automaton_6 : decode b_R_automaton 6 = .ok (.bipush 6, 2) := by decide +kernel
theorem d_R_automaton_8 : decode b_R_automaton 8 = .ok (.if_icmp .gt 11, 3) := by decide +kernel
theorem d_R_automaton_11 : decode b_R_automaton 11 = .ok (.iload_n 2, 1) := by decide +kernel
theorem d_R_automaton_12 : decode b_R_automaton 12 = .ok (.iconst 2, 1) := by decide +kernel
theorem d_R_automaton_13 : decode b_R_automaton 13 = .ok (.invokestatic 94, 3) := by decide +kernel
theorem d_R_automaton_16 : decode b_R_automaton 16 = .ok (.ifCond .eq 7, 3) := by decide +kernel
theorem d_R_automaton_19 : decode b_R_automaton 19 = .ok (.iconst 1, 1) := by decide +kernel
theorem d_R_automaton_20 : decode b_R_automaton 20 = .ok (.goto 4, 3) := by decide +kernel
theorem d_R_automaton_23 : decode b_R_automaton 23 = .ok (.iconst 0, 1) := by decide +kernel
theorem d_R_automaton_24 : decode b_R_automaton 24 = .ok (.istore_n 3, 1) := by decide +kernel
theorem d_R_automaton_25 : decode b_R_automaton 25 = .ok (.aload_n 0, 1) := by decide +kernel
theorem d_R_automaton_26 : decode b_R_automaton 26 = .ok (.iload_n 3, 1) := by decide +kernel
theorem d_R_automaton_27 : decode b_R_automaton 27 = .ok (.iload_n 3, 1) := by decide +kernel
theorem d_R_automaton_28 : decode b_R_automaton 28 = .ok (.ifCond .ne 15, 3) := by decide +kernel
theorem d_R_automaton_31 : decode b_R_automaton 31 = .ok (.aload_n 0, 1) := by decide +kernel
theorem d_R_automaton_32 : decode b_R_automaton 32 = .ok (.getfield 98, 3) := by decide +kernel
theorem d_R_automaton_35 : decode b_R_automaton 35 = .ok (.iconst 4, 1) := by decide +kernel
theorem d_R_automaton_36 : decode b_R_automaton 36 = .ok (.if_icmp .ne 7, 3) := by decide +kernel
theorem d_R_automaton_39 : decode b_R_automaton 39 = .ok (.iconst 1, 1) := by decide +kernel
theorem d_R_automaton_40 : decode b_R_automaton 40 = .ok (.goto 4, 3) := by decide +kernel
theorem d_R_automaton_43 : decode b_R_automaton 43 = .ok (.iconst 0, 1) := by decide +kernel
theorem d_R_automaton_44 : decode b_R_automaton 44 = .ok (.invokevirtual 101, 3) := by decide +kernel
theorem d_R_automaton_47 : decode b_R_automaton 47 = .ok (.ifCond .eq 5, 3) := by decide +kernel
theorem d_R_automaton_50 : decode b_R_automaton 50 = .ok (.iconst 0, 1) := by decide +kernel
theorem d_R_automaton_51 : decode b_R_automaton 51 = .ok (.ireturn, 1) := by decide +kernel
theorem d_R_automaton_52 : decode b_R_automaton 52 = .ok (.aload_n 0, 1) := by decide +kernel
theorem d_R_automaton_53 : decode b_R_automaton 53 = .ok (.invokevirtual 105, 3) := by decide +kernel
theorem d_R_automaton_56 : decode b_R_automaton 56 = .ok (.aload_n 0, 1) := by decide +kernel
theorem d_R_automaton_57 : decode b_R_automaton 57 = .ok (.getfield 7, 3) := by decide +kernel
theorem d_R_automaton_60 : decode b_R_automaton 60 = .ok (.aload_n 0, 1) := by decide +kernel
theorem d_R_automaton_61 : decode b_R_automaton 61 = .ok (.getfield 98, 3) := by decide +kernel
theorem d_R_automaton_64 : decode b_R_automaton 64 = .ok (.iload_n 1, 1) := by decide +kernel
theorem d_R_automaton_65 : decode b_R_automaton 65 = .ok (.iastore, 1) := by decide +kernel
theorem d_R_automaton_66 : decode b_R_automaton 66 = .ok (.aload_n 0, 1) := by decide +kernel
theorem d_R_automaton_67 : decode b_R_automaton 67 = .ok (.getfield 13, 3) := by decide +kernel
theorem d_R_automaton_70 : decode b_R_automaton 70 = .ok (.aload_n 0, 1) := by decide +kernel
theorem d_R_automaton_71 : decode b_R_automaton 71 = .ok (.getfield 98, 3) := by decide +kernel
theorem d_R_automaton_74 : decode b_R_automaton 74 = .ok (.iload_n 2, 1) := by decide +kernel
theorem d_R_automaton_75 : decode b_R_automaton 75 = .ok (.ifCond .ne 7, 3) := by decide +kernel
theorem d_R_automaton_78 : decode b_R_automaton 78 = .ok (.iconst 1, 1) := by decide +kernel
theorem d_R_automaton_79 : decode b_R_automaton 79 = .ok (.goto 4, 3) := by decide +kernel
theorem d_R_automaton_82 : decode b_R_automaton 82 = .ok (.iconst 0, 1) := by decide +kernel
theorem d_R_automaton_83 : decode b_R_automaton 83 = .ok (.bastore, 1) := by decide +kernel
theorem d_R_automaton_84 : decode b_R_automaton 84 = .ok (.aload_n 0, 1) := by decide +kernel
theorem d_R_automaton_85 : decode b_R_automaton 85 = .ok (.getfield 17, 3) := by decide +kernel
theorem d_R_automaton_88 : decode b_R_automaton 88 = .ok (.aload_n 0, 1) := by decide +kernel
theorem d_R_automaton_89 : decode b_R_automaton 89 = .ok (.getfield 98, 3) := by decide +kernel
theorem d_R_automaton_92 : decode b_R_automaton 92 = .ok (.iconst (-1), 1) := by decide +kernel
theorem d_R_automaton_93 : decode b_R_automaton 93 = .ok (.iastore, 1) := by decide +kernel
theorem d_R_automaton_94 : decode b_R_automaton 94 = .ok (.iconst 0, 1) := by decide +kernel
theorem d_R_automaton_95 : decode b_R_automaton 95 = .ok (.istore 4, 2) := by decide +kernel
theorem d_R_automaton_97 : decode b_R_automaton 97 = .ok (.iload 4, 2) := by decide +kernel
theorem d_R_automaton_99 : decode b_R_automaton 99 = .ok (.bipush 6, 2) := by decide +kernel
theorem d_R_automaton_101 : decode b_R_automaton 101 = .ok (.if_icmp .ge 41, 3) := by decide +kernel
theorem d_R_automaton_104 : decode b_R_automaton 104 = .ok (.aload_n 0, 1) := by decide +kernel
theorem d_R_automaton_105 : decode b_R_automaton 105 = .ok (.getfield 20, 3) := by decide +kernel
theorem d_R_automaton_108 : decode b_R_automaton 108 = .ok (.bipush 6, 2) := by decide +kernel
theorem d_R_automaton_110 : decode b_R_automaton 110 = .ok (.aload_n 0, 1) := by decide +kernel
theorem d_R_automaton_111 : decode b_R_automaton 111 = .ok (.getfield 98, 3) := by decide +kernel
theorem d_R_automaton_114 : decode b_R_automaton 114 = .ok (.imul, 1) := by decide +kernel
theorem d_R_automaton_115 : decode b_R_automaton 115 = .ok (.iload 4, 2) := by decide +kernel
theorem d_R_automaton_117 : decode b_R_automaton 117 = .ok (.iadd, 1) := by decide +kernel
theorem d_R_automaton_118 : decode b_R_automaton 118 = .ok (.iconst 0, 1) := by decide +kernel
theorem d_R_automaton_119 : decode b_R_automaton 119 = .ok (.bastore, 1) := by decide +kernel
theorem d_R_automaton_120 : decode b_R_automaton 120 = .ok (.aload_n 0, 1) := by decide +kernel
theorem d_R_automaton_121 : decode b_R_automaton 121 = .ok (.getfield 23, 3) := by decide +kernel
theorem d_R_automaton_124 : decode b_R_automaton 124 = .ok (.bipush 6, 2) := by decide +kernel
theorem d_R_automaton_126 : decode b_R_automaton 126 = .ok (.aload_n 0, 1) := by decide +kernel
theorem d_R_automaton_127 : decode b_R_automaton 127 = .ok (.getfield 98, 3) := by decide +kernel
theorem d_R_automaton_130 : decode b_R_automaton 130 = .ok (.imul, 1) := by decide +kernel
theorem d_R_automaton_131 : decode b_R_automaton 131 = .ok (.iload 4, 2) := by decide +kernel
theorem d_R_automaton_133 : decode b_R_automaton 133 = .ok (.iadd, 1) := by decide +kernel
theorem d_R_automaton_134 : decode b_R_automaton 134 = .ok (.iconst 0, 1) := by decide +kernel
theorem d_R_automaton_135 : decode b_R_automaton 135 = .ok (.bastore, 1) := by decide +kernel
theorem d_R_automaton_136 : decode b_R_automaton 136 = .ok (.iinc 4 1, 3) := by decide +kernel
theorem d_R_automaton_139 : decode b_R_automaton 139 = .ok (.goto (-42), 3) := by decide +kernel
theorem d_R_automaton_142 : decode b_R_automaton 142 = .ok (.iconst 0, 1) := by decide +kernel
theorem d_R_automaton_143 : decode b_R_automaton 143 = .ok (.istore 4, 2) := by decide +kernel
theorem d_R_automaton_145 : decode b_R_automaton 145 = .ok (.iload 4, 2) := by decide +kernel
theorem d_R_automaton_147 : decode b_R_automaton 147 = .ok (.bipush 72, 2) := by decide +kernel
theorem d_R_automaton_149 : decode b_R_automaton 149 = .ok (.if_icmp .ge 25, 3) := by decide +kernel
theorem d_R_automaton_152 : decode b_R_automaton 152 = .ok (.aload_n 0, 1) := by decide +kernel
theorem d_R_automaton_153 : decode b_R_automaton 153 = .ok (.getfield 26, 3) := by decide +kernel
theorem d_R_automaton_156 : decode b_R_automaton 156 = .ok (.bipush 72, 2) := by decide +kernel
theorem d_R_automaton_158 : decode b_R_automaton 158 = .ok (.aload_n 0, 1) := by decide +kernel
theorem d_R_automaton_159 : decode b_R_automaton 159 = .ok (.getfield 98, 3) := by decide +kernel
theorem d_R_automaton_162 : decode b_R_automaton 162 = .ok (.imul, 1) := by decide +kernel
theorem d_R_automaton_163 : decode b_R_automaton 163 = .ok (.iload 4, 2) := by decide +kernel
theorem d_R_automaton_165 : decode b_R_automaton 165 = .ok (.iadd, 1) := by decide +kernel
theorem d_R_automaton_166 : decode b_R_automaton 166 = .ok (.iconst (-1), 1) := by decide +kernel
theorem d_R_automaton_167 : decode b_R_automaton 167 = .ok (.iastore, 1) := by decide +kernel
theorem d_R_automaton_168 : decode b_R_automaton 168 = .ok (.iinc 4 1, 3) := by decide +kernel
theorem d_R_automaton_171 : decode b_R_automaton 171 = .ok (.goto (-26), 3) := by decide +kernel
theorem d_R_automaton_174 : decode b_R_automaton 174 = .ok (.aload_n 0, 1) := by decide +kernel
theorem d_R_automaton_175 : decode b_R_automaton 175 = .ok (.dup, 1) := by decide +kernel
theorem d_R_automaton_176 : decode b_R_automaton 176 = .ok (.getfield 98, 3) := by decide +kernel
theorem d_R_automaton_179 : decode b_R_automaton 179 = .ok (.iconst 1, 1) := by decide +kernel
theorem d_R_automaton_180 : decode b_R_automaton 180 = .ok (.iadd, 1) := by decide +kernel
theorem d_R_automaton_181 : decode b_R_automaton 181 = .ok (.putfield 98, 3) := by decide +kernel
theorem d_R_automaton_184 : decode b_R_automaton 184 = .ok (.aload_n 0, 1) := by decide +kernel
theorem d_R_automaton_185 : decode b_R_automaton 185 = .ok (.getfield 98, 3) := by decide +kernel
theorem d_R_automaton_188 : decode b_R_automaton 188 = .ok (.iconst 1, 1) := by decide +kernel
theorem d_R_automaton_189 : decode b_R_automaton 189 = .ok (.isub, 1) := by decide +kernel
theorem d_R_automaton_190 : decode b_R_automaton 190 = .ok (.ireturn, 1) := by decide +kernel
theorem d_R_change_0 : decode b_R_change 0 = .ok (.aload_n 0, 1) := by decide +kernel
theorem d_R_change_1 : decode b_R_change 1 = .ok (.iconst 0, 1) := by decide +kernel
theorem d_R_change_2 : decode b_R_change 2 = .ok (.putfield 87, 3) := by decide +kernel
theorem d_R_change_5 : decode b_R_change 5 = .ok (.aload_n 0, 1) := by decide +kernel
theorem d_R_change_6 : decode b_R_change 6 = .ok (.iconst 0, 1) := by decide +kernel
theorem d_R_change_7 : decode b_R_change 7 = .ok (.putfield 91, 3) := by decide +kernel
theorem d_R_change_10 : decode b_R_change 10 = .ok (.return_, 1) := by decide +kernel
theorem d_R_clear_0 : decode b_R_clear 0 = .ok (.aload_n 0, 1) := by decide +kernel
theorem d_R_clear_1 : decode b_R_clear 1 = .ok (.iconst 0, 1) := by decide +kernel
theorem d_R_clear_2 : decode b_R_clear 2 = .ok (.putfield 83, 3) := by decide +kernel
theorem d_R_clear_5 : decode b_R_clear 5 = .ok (.aload_n 0, 1) := by decide +kernel
theorem d_R_clear_6 : decode b_R_clear 6 = .ok (.invokevirtual 105, 3) := by decide +kernel
theorem d_R_clear_9 : decode b_R_clear 9 = .ok (.aload_n 0, 1) := by decide +kernel
theorem d_R_clear_10 : decode b_R_clear 10 = .ok (.iconst 0, 1) := by decide +kernel
theorem d_R_clear_11 : decode b_R_clear 11 = .ok (.putfield 98, 3) := by decide +kernel
theorem d_R_clear_14 : decode b_R_clear 14 = .ok (.iconst 0, 1) := by decide +kernel
theorem d_R_clear_15 : decode b_R_clear 15 = .ok (.istore_n 1, 1) := by decide +kernel
theorem d_R_clear_16 : decode b_R_clear 16 = .ok (.iload_n 1, 1) := by decide +kernel
theorem d_R_clear_17 : decode b_R_clear 17 = .ok (.bipush 12, 2) := by decide +kernel
theorem d_R_clear_19 : decode b_R_clear 19 = .ok (.if_icmp .ge 16, 3) := by decide +kernel
theorem d_R_clear_22 : decode b_R_clear 22 = .ok (.aload_n 0, 1) := by decide +kernel
theorem d_R_clear_23 : decode b_R_clear 23 = .ok (.getfield 29, 3) := by decide +kernel
theorem d_R_clear_26 : decode b_R_clear 26 = .ok (.iload_n 1, 1) := by decide +kernel
theorem d_R_clear_27 : decode b_R_clear 27 = .ok (.iconst 0, 1) := by decide +kernel
theorem d_R_clear_28 : decode b_R_clear 28 = .ok (.bastore, 1) := by decide +kernel
theorem d_R_clear_29 : decode b_R_clear 29 = .ok (.iinc 1 1, 3) := by decide +kernel
theorem d_R_clear_32 : decode b_R_clear 32 = .ok (.goto (-16), 3) := by decide +kernel
theorem d_R_clear_35 : decode b_R_clear 35 = .ok (.return_, 1) := by decide +kernel
theorem d_R_comesHome_0 : decode b_R_comesHome 0 = .ok (.iconst 0, 1) := by decide +kernel
theorem d_R_comesHome_1 : decode b_R_comesHome 1 = .ok (.istore_n 2, 1) := by decide +kernel
theorem d_R_comesHome_2 : decode b_R_comesHome 2 = .ok (.iload_n 2, 1) := by decide +kernel
theorem d_R_comesHome_3 : decode b_R_comesHome 3 = .ok (.aload_n 0, 1) := by decide +kernel
theorem d_R_comesHome_4 : decode b_R_comesHome 4 = .ok (.getfield 164, 3) := by decide +kernel
theorem d_R_comesHome_7 : decode b_R_comesHome 7 = .ok (.if_icmp .ge 16, 3) := by decide +kernel
theorem d_R_comesHome_10 : decode b_R_comesHome 10 = .ok (.aload_n 0, 1) := by decide +kernel
theorem d_R_comesHome_11 : decode b_R_comesHome 11 = .ok (.getfield 68, 3) := by decide +kernel
theorem d_R_comesHome_14 : decode b_R_comesHome 14 = .ok (.iload_n 2, 1) := by decide +kernel
theorem d_R_comesHome_15 : decode b_R_comesHome 15 = .ok (.iconst (-1), 1) := by decide +kernel
theorem d_R_comesHome_16 : decode b_R_comesHome 16 = .ok (.iastore, 1) := by decide +kernel
theorem d_R_comesHome_17 : decode b_R_comesHome 17 = .ok (.iinc 2 1, 3) := by decide +kernel
theorem d_R_comesHome_20 : decode b_R_comesHome 20 = .ok (.goto (-18), 3) := by decide +kernel
theorem d_R_comesHome_23 : decode b_R_comesHome 23 = .ok (.aload_n 0, 1) := by decide +kernel
theorem d_R_comesHome_24 : decode b_R_comesHome 24 = .ok (.getfield 68, 3) := by decide +kernel
theorem d_R_comesHome_27 : decode b_R_comesHome 27 = .ok (.iload_n 1, 1) := by decide +kernel
theorem d_R_comesHome_28 : decode b_R_comesHome 28 = .ok (.iconst 0, 1) := by decide +kernel
theorem d_R_comesHome_29 : decode b_R_comesHome 29 = .ok (.iastore, 1) := by decide +kernel
theorem d_R_comesHome_30 : decode b_R_comesHome 30 = .ok (.aload_n 0, 1) := by decide +kernel
theorem d_R_comesHome_31 : decode b_R_comesHome 31 = .ok (.getfield 71, 3) := by decide +kernel
theorem d_R_comesHome_34 : decode b_R_comesHome 34 = .ok (.iconst 0, 1) := by decide +kernel
theorem d_R_comesHome_35 : decode b_R_comesHome 35 = .ok (.iload_n 1, 1) := by decide +kernel
theorem d_R_comesHome_36 : decode b_R_comesHome 36 = .ok (.iastore, 1) := by decide +kernel
theorem d_R_comesHome_37 : decode b_R_comesHome 37 = .ok (.iconst 1, 1) := by decide +kernel
theorem d_R_comesHome_38 : decode b_R_comesHome 38 = .ok (.istore_n 2, 1) := by decide +kernel
theorem d_R_comesHome_39 : decode b_R_comesHome 39 = .ok (.iconst 0, 1) := by decide +kernel
theorem d_R_comesHome_40 : decode b_R_comesHome 40 = .ok (.istore_n 3, 1) := by decide +kernel
theorem d_R_comesHome_41 : decode b_R_comesHome 41 = .ok (.iload_n 3, 1) := by decide +kernel
theorem d_R_comesHome_42 : decode b_R_comesHome 42 = .ok (.iload_n 2, 1) := by decide +kernel
theorem d_R_comesHome_43 : decode b_R_comesHome 43 = .ok (.if_icmp .ge 166, 3) := by decide +kernel
theorem d_R_comesHome_46 : decode b_R_comesHome 46 = .ok (.aload_n 0, 1) := by decide +kernel
theorem d_R_comesHome_47 : decode b_R_comesHome 47 = .ok (.getfield 71, 3) := by decide +kernel
theorem d_R_comesHome_50 : decode b_R_comesHome 50 = .ok (.iload_n 3, 1) := by decide +kernel
theorem d_R_comesHome_51 : decode b_R_comesHome 51 = .ok (.iaload, 1) := by decide +kernel
theorem d_R_comesHome_52 : decode b_R_comesHome 52 = .ok (.istore 4, 2) := by decide +kernel
theorem d_R_comesHome_54 : decode b_R_comesHome 54 = .ok (.aload_n 0, 1) := by decide +kernel
theorem d_R_comesHome_55 : decode b_R_comesHome 55 = .ok (.getfield 47, 3) := by decide +kernel
theorem d_R_comesHome_58 : decode b_R_comesHome 58 = .ok (.sipush 200, 3) := by decide +kernel
theorem d_R_comesHome_61 : decode b_R_comesHome 61 = .ok (.aload_n 0, 1) := by decide +kernel
theorem d_R_comesHome_62 : decode b_R_comesHome 62 = .ok (.getfield 77, 3) := by decide +kernel
theorem d_R_comesHome_65 : decode b_R_comesHome 65 = .ok (.iload 4, 2) := by decide +kernel
theorem d_R_comesHome_67 : decode b_R_comesHome 67 = .ok (.iaload, 1) := by decide +kernel
theorem d_R_comesHome_68 : decode b_R_comesHome 68 = .ok (.iadd, 1) := by decide +kernel
theorem d_R_comesHome_69 : decode b_R_comesHome 69 = .ok (.baload, 1) := by decide +kernel
theorem d_R_comesHome_70 : decode b_R_comesHome 70 = .ok (.ifCond .eq 24, 3) := by decide +kernel
theorem d_R_comesHome_73 : decode b_R_comesHome 73 = .ok (.aload_n 0, 1) := by decide +kernel
theorem d_R_comesHome_74 : decode b_R_comesHome 74 = .ok (.getfield 47, 3) := by decide +kernel
theorem d_R_comesHome_77 : decode b_R_comesHome 77 = .ok (.sipush 400, 3) := by decide +kernel
theorem d_R_comesHome_80 : decode b_R_comesHome 80 = .ok (.aload_n 0, 1) := by decide +kernel
theorem d_R_comesHome_81 : decode b_R_comesHome 81 = .ok (.getfield 80, 3) := by decide +kernel
theorem d_R_comesHome_84 : decode b_R_comesHome 84 = .ok (.iload 4, 2) := by decide +kernel
theorem d_R_comesHome_86 : decode b_R_comesHome 86 = .ok (.iaload, 1) := by decide +kernel
theorem d_R_comesHome_87 : decode b_R_comesHome 87 = .ok (.iadd, 1) := by decide +kernel
theorem d_R_comesHome_88 : decode b_R_comesHome 88 = .ok (.baload, 1) := by decide +kernel
theorem d_R_comesHome_89 : decode b_R_comesHome 89 = .ok (.ifCond .eq 5, 3) := by decide +kernel
theorem d_R_comesHome_92 : decode b_R_comesHome 92 = .ok (.iconst 1, 1) := by decide +kernel
theorem d_R_comesHome_93 : decode b_R_comesHome 93 = .ok (.ireturn, 1) := by decide +kernel
theorem d_R_comesHome_94 : decode b_R_comesHome 94 = .ok (.iconst 0, 1) := by decide +kernel
theorem d_R_comesHome_95 : decode b_R_comesHome 95 = .ok (.istore 5, 2) := by decide +kernel
theorem d_R_comesHome_97 : decode b_R_comesHome 97 = .ok (.iload 5, 2) := by decide +kernel
theorem d_R_comesHome_99 : decode b_R_comesHome 99 = .ok (.bipush 12, 2) := by decide +kernel
theorem d_R_comesHome_101 : decode b_R_comesHome 101 = .ok (.if_icmp .ge 102, 3) := by decide +kernel
theorem d_R_comesHome_104 : decode b_R_comesHome 104 = .ok (.aload_n 0, 1) := by decide +kernel
theorem d_R_comesHome_105 : decode b_R_comesHome 105 = .ok (.iconst 1, 1) := by decide +kernel
theorem d_R_comesHome_106 : decode b_R_comesHome 106 = .ok (.aload_n 0, 1) := by decide +kernel
theorem d_R_comesHome_107 : decode b_R_comesHome 107 = .ok (.getfield 77, 3) := by decide +kernel
theorem d_R_comesHome_110 : decode b_R_comesHome 110 = .ok (.iload 4, 2) := by decide +kernel
theorem d_R_comesHome_112 : decode b_R_comesHome 112 = .ok (.iaload, 1) := by decide +kernel
theorem d_R_comesHome_113 : decode b_R_comesHome 113 = .ok (.iload 5, 2) := by decide +kernel
theorem d_R_comesHome_115 : decode b_R_comesHome 115 = .ok (.invokevirtual 135, 3) := by decide +kernel
theorem d_R_comesHome_118 : decode b_R_comesHome 118 = .ok (.istore 6, 2) := by decide +kernel
theorem d_R_comesHome_120 : decode b_R_comesHome 120 = .ok (.aload_n 0, 1) := by decide +kernel
theorem d_R_comesHome_121 : decode b_R_comesHome 121 = .ok (.iconst 2, 1) := by decide +kernel
theorem d_R_comesHome_122 : decode b_R_comesHome 122 = .ok (.aload_n 0, 1) := by decide +kernel
theorem d_R_comesHome_123 : decode b_R_comesHome 123 = .ok (.getfield 80, 3) := by decide +kernel
theorem d_R_comesHome_126 : decode b_R_comesHome 126 = .ok (.iload 4, 2) := by decide +kernel
theorem d_R_comesHome_128 : decode b_R_comesHome 128 = .ok (.iaload, 1) := by decide +kernel
theorem d_R_comesHome_129 : decode b_R_comesHome 129 = .ok (.iload 5, 2) := by decide +kernel
theorem d_R_comesHome_131 : decode b_R_comesHome 131 = .ok (.invokevirtual 135, 3) := by decide +kernel
theorem d_R_comesHome_134 : decode b_R_comesHome 134 = .ok (.istore 7, 2) := by decide +kernel
theorem d_R_comesHome_136 : decode b_R_comesHome 136 = .ok (.iload 6, 2) := by decide +kernel
theorem d_R_comesHome_138 : decode b_R_comesHome 138 = .ok (.ifCond .lt 8, 3) := by decide +kernel
theorem d_R_comesHome_141 : decode b_R_comesHome 141 = .ok (.iload 7, 2) := by decide +kernel
theorem d_R_comesHome_143 : decode b_R_comesHome 143 = .ok (.ifCond .ge 7, 3) := by decide +kernel
theorem d_R_comesHome_146 : decode b_R_comesHome 146 = .ok (.iconst (-1), 1) := by decide +kernel
theorem d_R_comesHome_147 : decode b_R_comesHome 147 = .ok (.goto 11, 3) := by decide +kernel
theorem d_R_comesHome_150 : decode b_R_comesHome 150 = .ok (.aload_n 0, 1) := by decide +kernel
theorem d_R_comesHome_151 : decode b_R_comesHome 151 = .ok (.iload 6, 2) := by decide +kernel
theorem d_R_comesHome_153 : decode b_R_comesHome 153 = .ok (.iload 7, 2) := by decide +kernel
theorem d_R_comesHome_155 : decode b_R_comesHome 155 = .ok (.invokevirtual 167, 3) := by decide +kernel
theorem d_R_comesHome_158 : decode b_R_comesHome 158 = .ok (.istore 8, 2) := by decide +kernel
theorem d_R_comesHome_160 : decode b_R_comesHome 160 = .ok (.iload 8, 2) := by decide +kernel
theorem d_R_comesHome_162 : decode b_R_comesHome 162 = .ok (.ifCond .lt 35, 3) := by decide +kernel
theorem d_R_comesHome_165 : decode b_R_comesHome 165 = .ok (.aload_n 0, 1) := by decide +kernel
theorem d_R_comesHome_166 : decode b_R_comesHome 166 = .ok (.getfield 68, 3) := by decide +kernel
theorem d_R_comesHome_169 : decode b_R_comesHome 169 = .ok (.iload 8, 2) := by decide +kernel
theorem d_R_comesHome_171 : decode b_R_comesHome 171 = .ok (.iaload, 1) := by decide +kernel
theorem d_R_comesHome_172 : decode b_R_comesHome 172 = .ok (.ifCond .lt 6, 3) := by decide +kernel
theorem d_R_comesHome_175 : decode b_R_comesHome 175 = .ok (.goto 22, 3) := by decide +kernel
theorem d_R_comesHome_178 : decode b_R_comesHome 178 = .ok (.aload_n 0, 1) := by decide +kernel
theorem d_R_comesHome_179 : decode b_R_comesHome 179 = .ok (.getfield 68, 3) := by decide +kernel
theorem d_R_comesHome_182 : decode b_R_comesHome 182 = .ok (.iload 8, 2) := by decide +kernel
theorem d_R_comesHome_184 : decode b_R_comesHome 184 = .ok (.iconst 0, 1) := by decide +kernel
theorem d_R_comesHome_185 : decode b_R_comesHome 185 = .ok (.iastore, 1) := by decide +kernel
theorem d_R_comesHome_186 : decode b_R_comesHome 186 = .ok (.aload_n 0, 1) := by decide +kernel
theorem d_R_comesHome_187 : decode b_R_comesHome 187 = .ok (.getfield 71, 3) := by decide +kernel
theorem d_R_comesHome_190 : decode b_R_comesHome 190 = .ok (.iload_n 2, 1) := by decide +kernel
theorem d_R_comesHome_191 : decode b_R_comesHome 191 = .ok (.iload 8, 2) := by decide +kernel
theorem d_R_comesHome_193 : decode b_R_comesHome 193 = .ok (.iastore, 1) := by decide +kernel
theorem d_R_comesHome_194 : decode b_R_comesHome 194 = .ok (.iinc 2 1, 3) := by decide +kernel
theorem d_R_comesHome_197 : decode b_R_comesHome 197 = .ok (.iinc 5 1, 3) := by decide +kernel
theorem d_R_comesHome_200 : decode b_R_comesHome 200 = .ok (.goto (-103), 3) := by decide +kernel
theorem d_R_comesHome_203 : decode b_R_comesHome 203 = .ok (.iinc 3 1, 3) := by decide +kernel
theorem d_R_comesHome_206 : decode b_R_comesHome 206 = .ok (.goto (-165), 3) := by decide +kernel
theorem d_R_comesHome_209 : decode b_R_comesHome 209 = .ok (.iconst 0, 1) := by decide +kernel
theorem d_R_comesHome_210 : decode b_R_comesHome 210 = .ok (.ireturn, 1) := by decide +kernel
theorem d_R_conflict_0 : decode b_R_conflict 0 = .ok (.aload_n 0, 1) := by decide +kernel
theorem d_R_conflict_1 : decode b_R_conflict 1 = .ok (.aload_n 0, 1) := by decide +kernel
theorem d_R_conflict_2 : decode b_R_conflict 2 = .ok (.iload_n 1, 1) := by decide +kernel
theorem d_R_conflict_3 : decode b_R_conflict 3 = .ok (.invokevirtual 170, 3) := by decide +kernel
theorem d_R_conflict_6 : decode b_R_conflict 6 = .ok (.ifCond .eq 11, 3) := by decide +kernel
theorem d_R_conflict_9 : decode b_R_conflict 9 = .ok (.aload_n 0, 1) := by decide +kernel
theorem d_R_conflict_10 : decode b_R_conflict 10 = .ok (.iload_n 2, 1) := by decide +kernel
theorem d_R_conflict_11 : decode b_R_conflict 11 = .ok (.invokevirtual 170, 3) := by decide +kernel
theorem d_R_conflict_14 : decode b_R_conflict 14 = .ok (.ifCond .ne 7, 3) := by decide +kernel
theorem d_R_conflict_17 : decode b_R_conflict 17 = .ok (.iconst 1, 1) := by decide +kernel
theorem d_R_conflict_18 : decode b_R_conflict 18 = .ok (.goto 4, 3) := by decide +kernel
theorem d_R_conflict_21 : decode b_R_conflict 21 = .ok (.iconst 0, 1) := by decide +kernel
theorem d_R_conflict_22 : decode b_R_conflict 22 = .ok (.iconst 0, 1) := by decide +kernel
theorem d_R_conflict_23 : decode b_R_conflict 23 = .ok (.invokevirtual 101, 3) := by decide +kernel
theorem d_R_conflict_26 : decode b_R_conflict 26 = .ok (.ifCond .eq 5, 3) := by decide +kernel
theorem d_R_conflict_29 : decode b_R_conflict 29 = .ok (.iconst 0, 1) := by decide +kernel
theorem d_R_conflict_30 : decode b_R_conflict 30 = .ok (.ireturn, 1) := by decide +kernel
theorem d_R_conflict_31 : decode b_R_conflict 31 = .ok (.aload_n 0, 1) := by decide +kernel
theorem d_R_conflict_32 : decode b_R_conflict 32 = .ok (.iconst 1, 1) := by decide +kernel
theorem d_R_conflict_33 : decode b_R_conflict 33 = .ok (.iload_n 1, 1) := by decide +kernel
theorem d_R_conflict_34 : decode b_R_conflict 34 = .ok (.invokevirtual 173, 3) := by decide +kernel
theorem d_R_conflict_37 : decode b_R_conflict 37 = .ok (.ifCond .eq 12, 3) := by decide +kernel
theorem d_R_conflict_40 : decode b_R_conflict 40 = .ok (.aload_n 0, 1) := by decide +kernel
theorem d_R_conflict_41 : decode b_R_conflict 41 = .ok (.iconst 2, 1) := by decide +kernel
theorem d_R_conflict_42 : decode b_R_conflict 42 = .ok (.iload_n 2, 1) := by decide +kernel
theorem d_R_conflict_43 : decode b_R_conflict 43 = .ok (.invokevirtual 173, 3) := by decide +kernel
theorem d_R_conflict_46 : decode b_R_conflict 46 = .ok (.ifCond .ne 5, 3) := by decide +kernel
theorem d_R_conflict_49 : decode b_R_conflict 49 = .ok (.iconst (-1), 1) := by decide +kernel
theorem d_R_conflict_50 : decode b_R_conflict 50 = .ok (.ireturn, 1) := by decide +kernel
theorem d_R_conflict_51 : decode b_R_conflict 51 = .ok (.aload_n 0, 1) := by decide +kernel
theorem d_R_conflict_52 : decode b_R_conflict 52 = .ok (.iconst 0, 1) := by decide +kernel
theorem d_R_conflict_53 : decode b_R_conflict 53 = .ok (.putfield 164, 3) := by decide +kernel
theorem d_R_conflict_56 : decode b_R_conflict 56 = .ok (.aload_n 0, 1) := by decide +kernel
theorem d_R_conflict_57 : decode b_R_conflict 57 = .ok (.iconst 0, 1) := by decide +kernel
theorem d_R_conflict_58 : decode b_R_conflict 58 = .ok (.iconst 0, 1) := by decide +kernel
theorem d_R_conflict_59 : decode b_R_conflict 59 = .ok (.invokevirtual 167, 3) := by decide +kernel
theorem d_R_conflict_62 : decode b_R_conflict 62 = .ok (.pop, 1) := by decide +kernel
theorem d_R_conflict_63 : decode b_R_conflict 63 = .ok (.iconst 0, 1) := by decide +kernel
theorem d_R_conflict_64 : decode b_R_conflict 64 = .ok (.istore_n 3, 1) := by decide +kernel
theorem d_R_conflict_65 : decode b_R_conflict 65 = .ok (.iload_n 3, 1) := by decide +kernel
theorem d_R_conflict_66 : decode b_R_conflict 66 = .ok (.aload_n 0, 1) := by decide +kernel
theorem d_R_conflict_67 : decode b_R_conflict 67 = .ok (.getfield 164, 3) := by decide +kernel
theorem d_R_conflict_70 : decode b_R_conflict 70 = .ok (.if_icmp .ge 78, 3) := by decide +kernel
theorem d_R_conflict_73 : decode b_R_conflict 73 = .ok (.iconst 0, 1) := by decide +kernel
theorem d_R_conflict_74 : decode b_R_conflict 74 = .ok (.istore 4, 2) := by decide +kernel
theorem d_R_conflict_76 : decode b_R_conflict 76 = .ok (.iload 4, 2) := by decide +kernel
theorem d_R_conflict_78 : decode b_R_conflict 78 = .ok (.bipush 12, 2) := by decide +kernel
theorem d_R_conflict_80 : decode b_R_conflict 80 = .ok (.if_icmp .ge 62, 3) := by decide +kernel
theorem d_R_conflict_83 : decode b_R_conflict 83 = .ok (.aload_n 0, 1) := by decide +kernel
theorem d_R_conflict_84 : decode b_R_conflict 84 = .ok (.iconst 1, 1) := by decide +kernel
theorem d_R_conflict_85 : decode b_R_conflict 85 = .ok (.aload_n 0, 1) := by decide +kernel
theorem d_R_conflict_86 : decode b_R_conflict 86 = .ok (.getfield 77, 3) := by decide +kernel
theorem d_R_conflict_89 : decode b_R_conflict 89 = .ok (.iload_n 3, 1) := by decide +kernel
theorem d_R_conflict_90 : decode b_R_conflict 90 = .ok (.iaload, 1) := by decide +kernel
theorem d_R_conflict_91 : decode b_R_conflict 91 = .ok (.iload 4, 2) := by decide +kernel
theorem d_R_conflict_93 : decode b_R_conflict 93 = .ok (.invokevirtual 135, 3) := by decide +kernel
theorem d_R_conflict_96 : decode b_R_conflict 96 = .ok (.istore 5, 2) := by decide +kernel
theorem d_R_conflict_98 : decode b_R_conflict 98 = .ok (.aload_n 0, 1) := by decide +kernel
theorem d_R_conflict_99 : decode b_R_conflict 99 = .ok (.iconst 2, 1) := by decide +kernel
theorem d_R_conflict_100 : decode b_R_conflict 100 = .ok (.aload_n 0, 1) := by decide +kernel
theorem d_R_conflict_101 : decode b_R_conflict 101 = .ok (.getfield 80, 3) := by decide +kernel
theorem d_R_conflict_104 : decode b_R_conflict 104 = .ok (.iload_n 3, 1) := by decide +kernel
theorem d_R_conflict_105 : decode b_R_conflict 105 = .ok (.iaload, 1) := by decide +kernel
theorem d_R_conflict_106 : decode b_R_conflict 106 = .ok (.iload 4, 2) := by decide +kernel
theorem d_R_conflict_108 : decode b_R_conflict 108 = .ok (.invokevirtual 135, 3) := by decide +kernel
theorem d_R_conflict_111 : decode b_R_conflict 111 = .ok (.istore 6, 2) := by decide +kernel
theorem d_R_conflict_113 : decode b_R_conflict 113 = .ok (.iload 5, 2) := by decide +kernel
theorem d_R_conflict_115 : decode b_R_conflict 115 = .ok (.ifCond .lt 21, 3) := by decide +kernel
theorem d_R_conflict_118 : decode b_R_conflict 118 = .ok (.iload 6, 2) := by decide +kernel
theorem d_R_conflict_120 : decode b_R_conflict 120 = .ok (.ifCond .lt 16, 3) := by decide +kernel
theorem d_R_conflict_123 : decode b_R_conflict 123 = .ok (.aload_n 0, 1) := by decide +kernel
theorem d_R_conflict_124 : decode b_R_conflict 124 = .ok (.iload 5, 2) := by decide +kernel
theorem d_R_conflict_126 : decode b_R_conflict 126 = .ok (.iload 6, 2) := by decide +kernel
theorem d_R_conflict_128 : decode b_R_conflict 128 = .ok (.invokevirtual 167, 3) := by decide +kernel
theorem d_R_conflict_131 : decode b_R_conflict 131 = .ok (.ifCond .ge 5, 3) := by decide +kernel
theorem d_R_conflict_134 : decode b_R_conflict 134 = .ok (.iconst (-1), 1) := by decide +kernel
theorem d_R_conflict_135 : decode b_R_conflict 135 = .ok (.ireturn, 1) := by decide +kernel
theorem d_R_conflict_136 : decode b_R_conflict 136 = .ok (.iinc 4 1, 3) := by decide +kernel
theorem d_R_conflict_139 : decode b_R_conflict 139 = .ok (.goto (-63), 3) := by decide +kernel
theorem d_R_conflict_142 : decode b_R_conflict 142 = .ok (.iinc 3 1, 3) := by decide +kernel
theorem d_R_conflict_145 : decode b_R_conflict 145 = .ok (.goto (-80), 3) := by decide +kernel
theorem d_R_conflict_148 : decode b_R_conflict 148 = .ok (.iconst 0, 1) := by decide +kernel
theorem d_R_conflict_149 : decode b_R_conflict 149 = .ok (.istore_n 3, 1) := by decide +kernel
theorem d_R_conflict_150 : decode b_R_conflict 150 = .ok (.iload_n 3, 1) := by decide +kernel
theorem d_R_conflict_151 : decode b_R_conflict 151 = .ok (.aload_n 0, 1) := by decide +kernel
theorem d_R_conflict_152 : decode b_R_conflict 152 = .ok (.getfield 164, 3) := by decide +kernel
theorem d_R_conflict_155 : decode b_R_conflict 155 = .ok (.if_icmp .ge 19, 3) := by decide +kernel
theorem d_R_conflict_158 : decode b_R_conflict 158 = .ok (.aload_n 0, 1) := by decide +kernel
theorem d_R_conflict_159 : decode b_R_conflict 159 = .ok (.iload_n 3, 1) := by decide +kernel
theorem d_R_conflict_160 : decode b_R_conflict 160 = .ok (.invokevirtual 176, 3) := by decide +kernel
theorem d_R_conflict_163 : decode b_R_conflict 163 = .ok (.ifCond .ne 5, 3) := by decide +kernel
theorem d_R_conflict_166 : decode b_R_conflict 166 = .ok (.iconst 1, 1) := by decide +kernel
theorem d_R_conflict_167 : decode b_R_conflict 167 = .ok (.ireturn, 1) := by decide +kernel
theorem d_R_conflict_168 : decode b_R_conflict 168 = .ok (.iinc 3 1, 3) := by decide +kernel
theorem d_R_conflict_171 : decode b_R_conflict 171 = .ok (.goto (-21), 3) := by decide +kernel
theorem d_R_conflict_174 : decode b_R_conflict 174 = .ok (.iconst 0, 1) := by decide +kernel
theorem d_R_conflict_175 : decode b_R_conflict 175 = .ok (.ireturn, 1) := by decide +kernel
theorem d_R_couple_0 : decode b_R_couple 0 = .ok (.iconst 0, 1) := by decide +kernel
theorem d_R_couple_1 : decode b_R_couple 1 = .ok (.istore_n 3, 1) := by decide +kernel
theorem d_R_couple_2 : decode b_R_couple 2 = .ok (.iload_n 3, 1) := by decide +kernel
theorem d_R_couple_3 : decode b_R_couple 3 = .ok (.aload_n 0, 1) := by decide +kernel
theorem d_R_couple_4 : decode b_R_couple 4 = .ok (.getfield 164, 3) := by decide +kernel
theorem d_R_couple_7 : decode b_R_couple 7 = .ok (.if_icmp .ge 31, 3) := by decide +kernel
theorem d_R_couple_10 : decode b_R_couple 10 = .ok (.aload_n 0, 1) := by decide +kernel
theorem d_R_couple_11 : decode b_R_couple 11 = .ok (.getfield 77, 3) := by decide +kernel
theorem d_R_couple_14 : decode b_R_couple 14 = .ok (.iload_n 3, 1) := by decide +kernel
theorem d_R_couple_15 : decode b_R_couple 15 = .ok (.iaload, 1) := by decide +kernel
theorem d_R_couple_16 : decode b_R_couple 16 = .ok (.iload_n 1, 1) := by decide +kernel
theorem d_R_couple_17 : decode b_R_couple 17 = .ok (.if_icmp .ne 15, 3) := by decide +kernel
theorem d_R_couple_20 : decode b_R_couple 20 = .ok (.aload_n 0, 1) := by decide +kernel
theorem d_R_couple_21 : decode b_R_couple 21 = .ok (.getfield 80, 3) := by decide +kernel
theorem d_R_couple_24 : decode b_R_couple 24 = .ok (.iload_n 3, 1) := by decide +kernel
theorem d_R_couple_25 : decode b_R_couple 25 = .ok (.iaload, 1) := by decide +kernel
theorem d_R_couple_26 : decode b_R_couple 26 = .ok (.iload_n 2, 1) := by decide +kernel
theorem d_R_couple_27 : decode b_R_couple 27 = .ok (.if_icmp .ne 5, 3) := by decide +kernel
theorem d_R_couple_30 : decode b_R_couple 30 = .ok (.iload_n 3, 1) := by decide +kernel
theorem d_R_couple_31 : decode b_R_couple 31 = .ok (.ireturn, 1) := by decide +kernel
theorem d_R_couple_32 : decode b_R_couple 32 = .ok (.iinc 3 1, 3) := by decide +kernel
theorem d_R_couple_35 : decode b_R_couple 35 = .ok (.goto (-33), 3) := by decide +kernel
theorem d_R_couple_38 : decode b_R_couple 38 = .ok (.aload_n 0, 1) := by decide +kernel
theorem d_R_couple_39 : decode b_R_couple 39 = .ok (.getfield 164, 3) := by decide +kernel
theorem d_R_couple_42 : decode b_R_couple 42 = .ok (.sipush 200, 3) := by decide +kernel
theorem d_R_couple_45 : decode b_R_couple 45 = .ok (.if_icmp .ne 5, 3) := by decide +kernel
theorem d_R_couple_48 : decode b_R_couple 48 = .ok (.iconst (-1), 1) := by decide +kernel
theorem d_R_couple_49 : decode b_R_couple 49 = .ok (.ireturn, 1) := by decide +kernel
theorem d_R_couple_50 : decode b_R_couple 50 = .ok (.aload_n 0, 1) := by decide +kernel
theorem d_R_couple_51 : decode b_R_couple 51 = .ok (.getfield 77, 3) := by decide +kernel
theorem d_R_couple_54 : decode b_R_couple 54 = .ok (.aload_n 0, 1) := by decide +kernel
theorem d_R_couple_55 : decode b_R_couple 55 = .ok (.getfield 164, 3) := by decide +kernel
theorem d_R_couple_58 : decode b_R_couple 58 = .ok (.iload_n 1, 1) := by decide +kernel
theorem d_R_couple_59 : decode b_R_couple 59 = .ok (.iastore, 1) := by decide +kernel
theorem d_R_couple_60 : decode b_R_couple 60 = .ok (.aload_n 0, 1) := by decide +kernel
theorem d_R_couple_61 : decode b_R_couple 61 = .ok (.getfield 80, 3) := by decide +kernel
theorem d_R_couple_64 : decode b_R_couple 64 = .ok (.aload_n 0, 1) := by decide +kernel
theorem d_R_couple_65 : decode b_R_couple 65 = .ok (.getfield 164, 3) := by decide +kernel
theorem d_R_couple_68 : decode b_R_couple 68 = .ok (.iload_n 2, 1) := by decide +kernel
theorem d_R_couple_69 : decode b_R_couple 69 = .ok (.iastore, 1) := by decide +kernel
theorem d_R_couple_70 : decode b_R_couple 70 = .ok (.aload_n 0, 1) := by decide +kernel
theorem d_R_couple_71 : decode b_R_couple 71 = .ok (.dup, 1) := by decide +kernel
theorem d_R_couple_72 : decode b_R_couple 72 = .ok (.getfield 164, 3) := by decide +kernel
theorem d_R_couple_75 : decode b_R_couple 75 = .ok (.iconst 1, 1) := by decide +kernel
theorem d_R_couple_76 : decode b_R_couple 76 = .ok (.iadd, 1) := by decide +kernel
theorem d_R_couple_77 : decode b_R_couple 77 = .ok (.putfield 164, 3) := by decide +kernel
theorem d_R_couple_80 : decode b_R_couple 80 = .ok (.aload_n 0, 1) := by decide +kernel
theorem d_R_couple_81 : decode b_R_couple 81 = .ok (.getfield 164, 3) := by decide +kernel
theorem d_R_couple_84 : decode b_R_couple 84 = .ok (.iconst 1, 1) := by decide +kernel
theorem d_R_couple_85 : decode b_R_couple 85 = .ok (.isub, 1) := by decide +kernel
theorem d_R_couple_86 : decode b_R_couple 86 = .ok (.ireturn, 1) := by decide +kernel
theorem d_R_digit_0 : decode b_R_digit 0 = .ok (.iload_n 0, 1) := by decide +kernel
theorem d_R_digit_1 : decode b_R_digit 1 = .ok (.istore_n 2, 1) := by decide +kernel
theorem d_R_digit_2 : decode b_R_digit 2 = .ok (.iconst 0, 1) := by decide +kernel
theorem d_R_digit_3 : decode b_R_digit 3 = .ok (.istore_n 3, 1) := by decide +kernel
theorem d_R_digit_4 : decode b_R_digit 4 = .ok (.iload_n 3, 1) := by decide +kernel
theorem d_R_digit_5 : decode b_R_digit 5 = .ok (.iload_n 1, 1) := by decide +kernel
theorem d_R_digit_6 : decode b_R_digit 6 = .ok (.if_icmp .ge 14, 3) := by decide +kernel
theorem d_R_digit_9 : decode b_R_digit 9 = .ok (.iload_n 2, 1) := by decide +kernel
theorem d_R_digit_10 : decode b_R_digit 10 = .ok (.bipush 6, 2) := by decide +kernel
theorem d_R_digit_12 : decode b_R_digit 12 = .ok (.idiv, 1) := by decide +kernel
theorem d_R_digit_13 : decode b_R_digit 13 = .ok (.istore_n 2, 1) := by decide +kernel
theorem d_R_digit_14 : decode b_R_digit 14 = .ok (.iinc 3 1, 3) := by decide +kernel
theorem d_R_digit_17 : decode b_R_digit 17 = .ok (.goto (-13), 3) := by decide +kernel
theorem d_R_digit_20 : decode b_R_digit 20 = .ok (.iload_n 2, 1) := by decide +kernel
theorem d_R_digit_21 : decode b_R_digit 21 = .ok (.bipush 6, 2) := by decide +kernel
theorem d_R_digit_23 : decode b_R_digit 23 = .ok (.irem, 1) := by decide +kernel
theorem d_R_digit_24 : decode b_R_digit 24 = .ok (.ireturn, 1) := by decide +kernel
theorem d_R_edge_0 : decode b_R_edge 0 = .ok (.aload_n 0, 1) := by decide +kernel
theorem d_R_edge_1 : decode b_R_edge 1 = .ok (.iload_n 1, 1) := by decide +kernel
theorem d_R_edge_2 : decode b_R_edge 2 = .ok (.iload_n 2, 1) := by decide +kernel
theorem d_R_edge_3 : decode b_R_edge 3 = .ok (.invokevirtual 108, 3) := by decide +kernel
theorem d_R_edge_6 : decode b_R_edge 6 = .ok (.ifCond .ne 22, 3) := by decide +kernel
theorem d_R_edge_9 : decode b_R_edge 9 = .ok (.aload_n 0, 1) := by decide +kernel
theorem d_R_edge_10 : decode b_R_edge 10 = .ok (.iload_n 1, 1) := by decide +kernel
theorem d_R_edge_11 : decode b_R_edge 11 = .ok (.iload 4, 2) := by decide +kernel
theorem d_R_edge_13 : decode b_R_edge 13 = .ok (.invokevirtual 108, 3) := by decide +kernel
theorem d_R_edge_16 : decode b_R_edge 16 = .ok (.ifCond .ne 12, 3) := by decide +kernel
theorem d_R_edge_19 : decode b_R_edge 19 = .ok (.iload_n 3, 1) := by decide +kernel
theorem d_R_edge_20 : decode b_R_edge 20 = .ok (.bipush 12, 2) := by decide +kernel
theorem d_R_edge_22 : decode b_R_edge 22 = .ok (.invokestatic 94, 3) := by decide +kernel
theorem d_R_edge_25 : decode b_R_edge 25 = .ok (.ifCond .eq 7, 3) := by decide +kernel
theorem d_R_edge_28 : decode b_R_edge 28 = .ok (.iconst 1, 1) := by decide +kernel
theorem d_R_edge_29 : decode b_R_edge 29 = .ok (.goto 4, 3) := by decide +kernel
theorem d_R_edge_32 : decode b_R_edge 32 = .ok (.iconst 0, 1) := by decide +kernel
theorem d_R_edge_33 : decode b_R_edge 33 = .ok (.istore 5, 2) := by decide +kernel
theorem d_R_edge_35 : decode b_R_edge 35 = .ok (.aload_n 0, 1) := by decide +kernel
theorem d_R_edge_36 : decode b_R_edge 36 = .ok (.iload 5, 2) := by decide +kernel
theorem d_R_edge_38 : decode b_R_edge 38 = .ok (.iload 5, 2) := by decide +kernel
theorem d_R_edge_40 : decode b_R_edge 40 = .ok (.ifCond .ne 35, 3) := by decide +kernel
theorem d_R_edge_43 : decode b_R_edge 43 = .ok (.aload_n 0, 1) := by decide +kernel
theorem d_R_edge_44 : decode b_R_edge 44 = .ok (.getfield 29, 3) := by decide +kernel
theorem d_R_edge_47 : decode b_R_edge 47 = .ok (.iload_n 3, 1) := by decide +kernel
theorem d_R_edge_48 : decode b_R_edge 48 = .ok (.baload, 1) := by decide +kernel
theorem d_R_edge_49 : decode b_R_edge 49 = .ok (.ifCond .eq 22, 3) := by decide +kernel
theorem d_R_edge_52 : decode b_R_edge 52 = .ok (.aload_n 0, 1) := by decide +kernel
theorem d_R_edge_53 : decode b_R_edge 53 = .ok (.getfield 26, 3) := by decide +kernel
theorem d_R_edge_56 : decode b_R_edge 56 = .ok (.bipush 72, 2) := by decide +kernel
theorem d_R_edge_58 : decode b_R_edge 58 = .ok (.iload_n 1, 1) := by decide +kernel
theorem d_R_edge_59 : decode b_R_edge 59 = .ok (.imul, 1) := by decide +kernel
theorem d_R_edge_60 : decode b_R_edge 60 = .ok (.bipush 12, 2) := by decide +kernel
theorem d_R_edge_62 : decode b_R_edge 62 = .ok (.iload_n 2, 1) := by decide +kernel
theorem d_R_edge_63 : decode b_R_edge 63 = .ok (.imul, 1) := by decide +kernel
theorem d_R_edge_64 : decode b_R_edge 64 = .ok (.iadd, 1) := by decide +kernel
theorem d_R_edge_65 : decode b_R_edge 65 = .ok (.iload_n 3, 1) := by decide +kernel
theorem d_R_edge_66 : decode b_R_edge 66 = .ok (.iadd, 1) := by decide +kernel
theorem d_R_edge_67 : decode b_R_edge 67 = .ok (.iaload, 1) := by decide +kernel
theorem d_R_edge_68 : decode b_R_edge 68 = .ok (.ifCond .lt 7, 3) := by decide +kernel
theorem d_R_edge_71 : decode b_R_edge 71 = .ok (.iconst 1, 1) := by decide +kernel
theorem d_R_edge_72 : decode b_R_edge 72 = .ok (.goto 4, 3) := by decide +kernel
theorem d_R_edge_75 : decode b_R_edge 75 = .ok (.iconst 0, 1) := by decide +kernel
theorem d_R_edge_76 : decode b_R_edge 76 = .ok (.invokevirtual 101, 3) := by decide +kernel
theorem d_R_edge_79 : decode b_R_edge 79 = .ok (.ifCond .eq 4, 3) := by decide +kernel
theorem d_R_edge_82 : decode b_R_edge 82 = .ok (.return_, 1) := by decide +kernel
theorem d_R_edge_83 : decode b_R_edge 83 = .ok (.aload_n 0, 1) := by decide +kernel
theorem d_R_edge_84 : decode b_R_edge 84 = .ok (.invokevirtual 105, 3) := by decide +kernel
theorem d_R_edge_87 : decode b_R_edge 87 = .ok (.aload_n 0, 1) := by decide +kernel
theorem d_R_edge_88 : decode b_R_edge 88 = .ok (.getfield 26, 3) := by decide +kernel
theorem d_R_edge_91 : decode b_R_edge 91 = .ok (.bipush 72, 2) := by decide +kernel
theorem d_R_edge_93 : decode b_R_edge 93 = .ok (.iload_n 1, 1) := by decide +kernel
theorem d_R_edge_94 : decode b_R_edge 94 = .ok (.imul, 1) := by decide +kernel
theorem d_R_edge_95 : decode b_R_edge 95 = .ok (.bipush 12, 2) := by decide +kernel
theorem d_R_edge_97 : decode b_R_edge 97 = .ok (.iload_n 2, 1) := by decide +kernel
theorem d_R_edge_98 : decode b_R_edge 98 = .ok (.imul, 1) := by decide +kernel
theorem d_R_edge_99 : decode b_R_edge 99 = .ok (.iadd, 1) := by decide +kernel
theorem d_R_edge_100 : decode b_R_edge 100 = .ok (.iload_n 3, 1) := by decide +kernel
theorem d_R_edge_101 : decode b_R_edge 101 = .ok (.iadd, 1) := by decide +kernel
theorem d_R_edge_102 : decode b_R_edge 102 = .ok (.iload 4, 2) := by decide +kernel
theorem d_R_edge_104 : decode b_R_edge 104 = .ok (.iastore, 1) := by decide +kernel
theorem d_R_edge_105 : decode b_R_edge 105 = .ok (.return_, 1) := by decide +kernel
theorem d_R_event_0 : decode b_R_event 0 = .ok (.iload_n 1, 1) := by decide +kernel
theorem d_R_event_1 : decode b_R_event 1 = .ok (.bipush 12, 2) := by decide +kernel
theorem d_R_event_3 : decode b_R_event 3 = .ok (.invokestatic 94, 3) := by decide +kernel
theorem d_R_event_6 : decode b_R_event 6 = .ok (.istore_n 3, 1) := by decide +kernel
theorem d_R_event_7 : decode b_R_event 7 = .ok (.aload_n 0, 1) := by decide +kernel
theorem d_R_event_8 : decode b_R_event 8 = .ok (.iload_n 3, 1) := by decide +kernel
theorem d_R_event_9 : decode b_R_event 9 = .ok (.iload_n 3, 1) := by decide +kernel
theorem d_R_event_10 : decode b_R_event 10 = .ok (.ifCond .ne 26, 3) := by decide +kernel
theorem d_R_event_13 : decode b_R_event 13 = .ok (.aload_n 0, 1) := by decide +kernel
theorem d_R_event_14 : decode b_R_event 14 = .ok (.getfield 29, 3) := by decide +kernel
theorem d_R_event_17 : decode b_R_event 17 = .ok (.iload_n 1, 1) := by decide +kernel
theorem d_R_event_18 : decode b_R_event 18 = .ok (.baload, 1) := by decide +kernel
theorem d_R_event_19 : decode b_R_event 19 = .ok (.ifCond .eq 17, 3) := by decide +kernel
theorem d_R_event_22 : decode b_R_event 22 = .ok (.aload_n 0, 1) := by decide +kernel
theorem d_R_event_23 : decode b_R_event 23 = .ok (.getfield 32, 3) := by decide +kernel
theorem d_R_event_26 : decode b_R_event 26 = .ok (.iload_n 1, 1) := by decide +kernel
theorem d_R_event_27 : decode b_R_event 27 = .ok (.baload, 1) := by decide +kernel
theorem d_R_event_28 : decode b_R_event 28 = .ok (.iload_n 2, 1) := by decide +kernel
theorem d_R_event_29 : decode b_R_event 29 = .ok (.if_icmp .eq 7, 3) := by decide +kernel
theorem d_R_event_32 : decode b_R_event 32 = .ok (.iconst 1, 1) := by decide +kernel
theorem d_R_event_33 : decode b_R_event 33 = .ok (.goto 4, 3) := by decide +kernel
theorem d_R_event_36 : decode b_R_event 36 = .ok (.iconst 0, 1) := by decide +kernel
theorem d_R_event_37 : decode b_R_event 37 = .ok (.invokevirtual 101, 3) := by decide +kernel
theorem d_R_event_40 : decode b_R_event 40 = .ok (.ifCond .eq 5, 3) := by decide +kernel
theorem d_R_event_43 : decode b_R_event 43 = .ok (.iconst 0, 1) := by decide +kernel
theorem d_R_event_44 : decode b_R_event 44 = .ok (.ireturn, 1) := by decide +kernel
theorem d_R_event_45 : decode b_R_event 45 = .ok (.aload_n 0, 1) := by decide +kernel
theorem d_R_event_46 : decode b_R_event 46 = .ok (.getfield 29, 3) := by decide +kernel
theorem d_R_event_49 : decode b_R_event 49 = .ok (.iload_n 1, 1) := by decide +kernel
theorem d_R_event_50 : decode b_R_event 50 = .ok (.baload, 1) := by decide +kernel
theorem d_R_event_51 : decode b_R_event 51 = .ok (.ifCond .eq 5, 3) := by decide +kernel
theorem d_R_event_54 : decode b_R_event 54 = .ok (.iconst 0, 1) := by decide +kernel
theorem d_R_event_55 : decode b_R_event 55 = .ok (.ireturn, 1) := by decide +kernel
theorem d_R_event_56 : decode b_R_event 56 = .ok (.aload_n 0, 1) := by decide +kernel
theorem d_R_event_57 : decode b_R_event 57 = .ok (.invokevirtual 105, 3) := by decide +kernel
theorem d_R_event_60 : decode b_R_event 60 = .ok (.aload_n 0, 1) := by decide +kernel
theorem d_R_event_61 : decode b_R_event 61 = .ok (.getfield 29, 3) := by decide +kernel
theorem d_R_event_64 : decode b_R_event 64 = .ok (.iload_n 1, 1) := by decide +kernel
theorem d_R_event_65 : decode b_R_event 65 = .ok (.iconst 1, 1) := by decide +kernel
theorem d_R_event_66 : decode b_R_event 66 = .ok (.bastore, 1) := by decide +kernel
theorem d_R_event_67 : decode b_R_event 67 = .ok (.aload_n 0, 1) := by decide +kernel
theorem d_R_event_68 : decode b_R_event 68 = .ok (.getfield 32, 3) := by decide +kernel
theorem d_R_event_71 : decode b_R_event 71 = .ok (.iload_n 1, 1) := by decide +kernel
theorem d_R_event_72 : decode b_R_event 72 = .ok (.iload_n 2, 1) := by decide +kernel
theorem d_R_event_73 : decode b_R_event 73 = .ok (.bastore, 1) := by decide +kernel
theorem d_R_event_74 : decode b_R_event 74 = .ok (.iconst 1, 1) := by decide +kernel
theorem d_R_event_75 : decode b_R_event 75 = .ok (.ireturn, 1) := by decide +kernel
theorem d_R_explore_0 : decode b_R_explore 0 = .ok (.iconst 0, 1) := by decide +kernel
theorem d_R_explore_1 : decode b_R_explore 1 = .ok (.istore_n 3, 1) := by decide +kernel
theorem d_R_explore_2 : decode b_R_explore 2 = .ok (.aload_n 0, 1) := by decide +kernel
theorem d_R_explore_3 : decode b_R_explore 3 = .ok (.getfield 98, 3) := by decide +kernel
theorem d_R_explore_6 : decode b_R_explore 6 = .ok (.iconst 1, 1) := by decide +kernel
theorem d_R_explore_7 : decode b_R_explore 7 = .ok (.isub, 1) := by decide +kernel
theorem d_R_explore_8 : decode b_R_explore 8 = .ok (.istore 4, 2) := by decide +kernel
theorem d_R_explore_10 : decode b_R_explore 10 = .ok (.iload 4, 2) := by decide +kernel
theorem d_R_explore_12 : decode b_R_explore 12 = .ok (.ifCond .lt 36, 3) := by decide +kernel
theorem d_R_explore_15 : decode b_R_explore 15 = .ok (.bipush 6, 2) := by decide +kernel
theorem d_R_explore_17 : decode b_R_explore 17 = .ok (.iload_n 3, 1) := by decide +kernel
theorem d_R_explore_18 : decode b_R_explore 18 = .ok (.imul, 1) := by decide +kernel
theorem d_R_explore_19 : decode b_R_explore 19 = .ok (.aload_n 0, 1) := by decide +kernel
theorem d_R_explore_20 : decode b_R_explore 20 = .ok (.iload 4, 2) := by decide +kernel
theorem d_R_explore_22 : decode b_R_explore 22 = .ok (.iload_n 2, 1) := by decide +kernel
theorem d_R_explore_23 : decode b_R_explore 23 = .ok (.invokevirtual 111, 3) := by decide +kernel
theorem d_R_explore_26 : decode b_R_explore 26 = .ok (.ifCond .eq 13, 3) := by decide +kernel
theorem d_R_explore_29 : decode b_R_explore 29 = .ok (.aload_n 0, 1) := by decide +kernel
theorem d_R_explore_30 : decode b_R_explore 30 = .ok (.getfield 17, 3) := by decide +kernel
theorem d_R_explore_33 : decode b_R_explore 33 = .ok (.iload 4, 2) := by decide +kernel
theorem d_R_explore_35 : decode b_R_explore 35 = .ok (.iaload, 1) := by decide +kernel
theorem d_R_explore_36 : decode b_R_explore 36 = .ok (.goto 4, 3) := by decide +kernel
theorem d_R_explore_39 : decode b_R_explore 39 = .ok (.iconst 0, 1) := by decide +kernel
theorem d_R_explore_40 : decode b_R_explore 40 = .ok (.iadd, 1) := by decide +kernel
theorem d_R_explore_41 : decode b_R_explore 41 = .ok (.istore_n 3, 1) := by decide +kernel
theorem d_R_explore_42 : decode b_R_explore 42 = .ok (.iinc 4 (-1), 3) := by decide +kernel
theorem d_R_explore_45 : decode b_R_explore 45 = .ok (.goto (-35), 3) := by decide +kernel
theorem d_R_explore_48 : decode b_R_explore 48 = .ok (.aload_n 0, 1) := by decide +kernel
theorem d_R_explore_49 : decode b_R_explore 49 = .ok (.getfield 35, 3) := by decide +kernel
theorem d_R_explore_52 : decode b_R_explore 52 = .ok (.iload_n 1, 1) := by decide +kernel
theorem d_R_explore_53 : decode b_R_explore 53 = .ok (.iconst 0, 1) := by decide +kernel
theorem d_R_explore_54 : decode b_R_explore 54 = .ok (.iastore, 1) := by decide +kernel
theorem d_R_explore_55 : decode b_R_explore 55 = .ok (.aload_n 0, 1) := by decide +kernel
theorem d_R_explore_56 : decode b_R_explore 56 = .ok (.iload_n 1, 1) := by decide +kernel
theorem d_R_explore_57 : decode b_R_explore 57 = .ok (.iload_n 3, 1) := by decide +kernel
theorem d_R_explore_58 : decode b_R_explore 58 = .ok (.invokevirtual 121, 3) := by decide +kernel
theorem d_R_explore_61 : decode b_R_explore 61 = .ok (.pop, 1) := by decide +kernel
theorem d_R_explore_62 : decode b_R_explore 62 = .ok (.iconst 0, 1) := by decide +kernel
theorem d_R_explore_63 : decode b_R_explore 63 = .ok (.istore 4, 2) := by decide +kernel
theorem d_R_explore_65 : decode b_R_explore 65 = .ok (.iload 4, 2) := by decide +kernel
theorem d_R_explore_67 : decode b_R_explore 67 = .ok (.aload_n 0, 1) := by decide +kernel
theorem d_R_explore_68 : decode b_R_explore 68 = .ok (.getfield 35, 3) := by decide +kernel
theorem d_R_explore_71 : decode b_R_explore 71 = .ok (.iload_n 1, 1) := by decide +kernel
theorem d_R_explore_72 : decode b_R_explore 72 = .ok (.iaload, 1) := by decide +kernel
theorem d_R_explore_73 : decode b_R_explore 73 = .ok (.if_icmp .ge 259, 3) := by decide +kernel
theorem d_R_explore_76 : decode b_R_explore 76 = .ok (.sipush 200, 3) := by decide +kernel
theorem d_R_explore_79 : decode b_R_explore 79 = .ok (.iload_n 1, 1) := by decide +kernel
theorem d_R_explore_80 : decode b_R_explore 80 = .ok (.imul, 1) := by decide +kernel
theorem d_R_explore_81 : decode b_R_explore 81 = .ok (.iload 4, 2) := by decide +kernel
theorem d_R_explore_83 : decode b_R_explore 83 = .ok (.iadd, 1) := by decide +kernel
theorem d_R_explore_84 : decode b_R_explore 84 = .ok (.istore 5, 2) := by decide +kernel
theorem d_R_explore_86 : decode b_R_explore 86 = .ok (.aload_n 0, 1) := by decide +kernel
theorem d_R_explore_87 : decode b_R_explore 87 = .ok (.getfield 47, 3) := by decide +kernel
theorem d_R_explore_90 : decode b_R_explore 90 = .ok (.iload 5, 2) := by decide +kernel
theorem d_R_explore_92 : decode b_R_explore 92 = .ok (.iconst 1, 1) := by decide +kernel
theorem d_R_explore_93 : decode b_R_explore 93 = .ok (.bastore, 1) := by decide +kernel
theorem d_R_explore_94 : decode b_R_explore 94 = .ok (.aload_n 0, 1) := by decide +kernel
theorem d_R_explore_95 : decode b_R_explore 95 = .ok (.getfield 50, 3) := by decide +kernel
theorem d_R_explore_98 : decode b_R_explore 98 = .ok (.iload 5, 2) := by decide +kernel
theorem d_R_explore_100 : decode b_R_explore 100 = .ok (.iconst 0, 1) := by decide +kernel
theorem d_R_explore_101 : decode b_R_explore 101 = .ok (.bastore, 1) := by decide +kernel
theorem d_R_explore_102 : decode b_R_explore 102 = .ok (.iconst 0, 1) := by decide +kernel
theorem d_R_explore_103 : decode b_R_explore 103 = .ok (.istore 6, 2) := by decide +kernel
theorem d_R_explore_105 : decode b_R_explore 105 = .ok (.iload 6, 2) := by decide +kernel
theorem d_R_explore_107 : decode b_R_explore 107 = .ok (.aload_n 0, 1) := by decide +kernel
theorem d_R_explore_108 : decode b_R_explore 108 = .ok (.getfield 98, 3) := by decide +kernel
theorem d_R_explore_111 : decode b_R_explore 111 = .ok (.if_icmp .ge 106, 3) := by decide +kernel
theorem d_R_explore_114 : decode b_R_explore 114 = .ok (.bipush 6, 2) := by decide +kernel
theorem d_R_explore_116 : decode b_R_explore 116 = .ok (.iload 6, 2) := by decide +kernel
theorem d_R_explore_118 : decode b_R_explore 118 = .ok (.imul, 1) := by decide +kernel
theorem d_R_explore_119 : decode b_R_explore 119 = .ok (.aload_n 0, 1) := by decide +kernel
theorem d_R_explore_120 : decode b_R_explore 120 = .ok (.getfield 38, 3) := by decide +kernel
theorem d_R_explore_123 : decode b_R_explore 123 = .ok (.iload 5, 2) := by decide +kernel
theorem d_R_explore_125 : decode b_R_explore 125 = .ok (.iaload, 1) := by decide +kernel
theorem d_R_explore_126 : decode b_R_explore 126 = .ok (.iload 6, 2) := by decide +kernel
theorem d_R_explore_128 : decode b_R_explore 128 = .ok (.invokestatic 114, 3) := by decide +kernel
theorem d_R_explore_131 : decode b_R_explore 131 = .ok (.iadd, 1) := by decide +kernel
theorem d_R_explore_132 : decode b_R_explore 132 = .ok (.istore 7, 2) := by decide +kernel
theorem d_R_explore_134 : decode b_R_explore 134 = .ok (.aload_n 0, 1) := by decide +kernel
theorem d_R_explore_135 : decode b_R_explore 135 = .ok (.iload 6, 2) := by decide +kernel
theorem d_R_explore_137 : decode b_R_explore 137 = .ok (.iload_n 2, 1) := by decide +kernel
theorem d_R_explore_138 : decode b_R_explore 138 = .ok (.invokevirtual 111, 3) := by decide +kernel
theorem d_R_explore_141 : decode b_R_explore 141 = .ok (.ifCond .ne 6, 3) := by decide +kernel
theorem d_R_explore_144 : decode b_R_explore 144 = .ok (.goto 67, 3) := by decide +kernel
theorem d_R_explore_147 : decode b_R_explore 147 = .ok (.aload_n 0, 1) := by decide +kernel
theorem d_R_explore_148 : decode b_R_explore 148 = .ok (.getfield 47, 3) := by decide +kernel
theorem d_R_explore_151 : decode b_R_explore 151 = .ok (.iload 5, 2) := by decide +kernel
theorem d_R_explore_153 : decode b_R_explore 153 = .ok (.aload_n 0, 1) := by decide +kernel
theorem d_R_explore_154 : decode b_R_explore 154 = .ok (.getfield 47, 3) := by decide +kernel
theorem d_R_explore_157 : decode b_R_explore 157 = .ok (.iload 5, 2) := by decide +kernel
theorem d_R_explore_159 : decode b_R_explore 159 = .ok (.baload, 1) := by decide +kernel
theorem d_R_explore_160 : decode b_R_explore 160 = .ok (.ifCond .eq 17, 3) := by decide +kernel
theorem d_R_explore_163 : decode b_R_explore 163 = .ok (.aload_n 0, 1) := by decide +kernel
theorem d_R_explore_164 : decode b_R_explore 164 = .ok (.getfield 20, 3) := by decide +kernel
theorem d_R_explore_167 : decode b_R_explore 167 = .ok (.iload 7, 2) := by decide +kernel
theorem d_R_explore_169 : decode b_R_explore 169 = .ok (.baload, 1) := by decide +kernel
theorem d_R_explore_170 : decode b_R_explore 170 = .ok (.ifCond .eq 7, 3) := by decide +kernel
theorem d_R_explore_173 : decode b_R_explore 173 = .ok (.iconst 1, 1) := by decide +kernel
theorem d_R_explore_174 : decode b_R_explore 174 = .ok (.goto 4, 3) := by decide +kernel
theorem d_R_explore_177 : decode b_R_explore 177 = .ok (.iconst 0, 1) := by decide +kernel
theorem d_R_explore_178 : decode b_R_explore 178 = .ok (.bastore, 1) := by decide +kernel
theorem d_R_explore_179 : decode b_R_explore 179 = .ok (.aload_n 0, 1) := by decide +kernel
theorem d_R_explore_180 : decode b_R_explore 180 = .ok (.getfield 50, 3) := by decide +kernel
theorem d_R_explore_183 : decode b_R_explore 183 = .ok (.iload 5, 2) := by decide +kernel
theorem d_R_explore_185 : decode b_R_explore 185 = .ok (.aload_n 0, 1) := by decide +kernel
theorem d_R_explore_186 : decode b_R_explore 186 = .ok (.getfield 50, 3) := by decide +kernel
theorem d_R_explore_189 : decode b_R_explore 189 = .ok (.iload 5, 2) := by decide +kernel
theorem d_R_explore_191 : decode b_R_explore 191 = .ok (.baload, 1) := by decide +kernel
theorem d_R_explore_192 : decode b_R_explore 192 = .ok (.ifCond .ne 13, 3) := by decide +kernel
theorem d_R_explore_195 : decode b_R_explore 195 = .ok (.aload_n 0, 1) := by decide +kernel
theorem d_R_explore_196 : decode b_R_explore 196 = .ok (.getfield 23, 3) := by decide +kernel
theorem d_R_explore_199 : decode b_R_explore 199 = .ok (.iload 7, 2) := by decide +kernel
theorem d_R_explore_201 : decode b_R_explore 201 = .ok (.baload, 1) := by decide +kernel
theorem d_R_explore_202 : decode b_R_explore 202 = .ok (.ifCond .eq 7, 3) := by decide +kernel
theorem d_R_explore_205 : decode b_R_explore 205 = .ok (.iconst 1, 1) := by decide +kernel
theorem d_R_explore_206 : decode b_R_explore 206 = .ok (.goto 4, 3) := by decide +kernel
theorem d_R_explore_209 : decode b_R_explore 209 = .ok (.iconst 0, 1) := by decide +kernel
theorem d_R_explore_210 : decode b_R_explore 210 = .ok (.bastore, 1) := by decide +kernel
theorem d_R_explore_211 : decode b_R_explore 211 = .ok (.iinc 6 1, 3) := by decide +kernel
theorem d_R_explore_214 : decode b_R_explore 214 = .ok (.goto (-109), 3) := by decide +kernel
theorem d_R_explore_217 : decode b_R_explore 217 = .ok (.iconst 0, 1) := by decide +kernel
theorem d_R_explore_218 : decode b_R_explore 218 = .ok (.istore 6, 2) := by decide +kernel
theorem d_R_explore_220 : decode b_R_explore 220 = .ok (.iload 6, 2) := by decide +kernel
theorem d_R_explore_222 : decode b_R_explore 222 = .ok (.bipush 12, 2) := by decide +kernel
theorem d_R_explore_224 : decode b_R_explore 224 = .ok (.if_icmp .ge 102, 3) := by decide +kernel
theorem d_R_explore_227 : decode b_R_explore 227 = .ok (.aload_n 0, 1) := by decide +kernel
theorem d_R_explore_228 : decode b_R_explore 228 = .ok (.aload_n 0, 1) := by decide +kernel
theorem d_R_explore_229 : decode b_R_explore 229 = .ok (.getfield 38, 3) := by decide +kernel
theorem d_R_explore_232 : decode b_R_explore 232 = .ok (.iload 5, 2) := by decide +kernel
theorem d_R_explore_234 : decode b_R_explore 234 = .ok (.iaload, 1) := by decide +kernel
theorem d_R_explore_235 : decode b_R_explore 235 = .ok (.iload 6, 2) := by decide +kernel
theorem d_R_explore_237 : decode b_R_explore 237 = .ok (.iload_n 2, 1) := by decide +kernel
theorem d_R_explore_238 : decode b_R_explore 238 = .ok (.invokevirtual 124, 3) := by decide +kernel
theorem d_R_explore_241 : decode b_R_explore 241 = .ok (.istore 7, 2) := by decide +kernel
theorem d_R_explore_243 : decode b_R_explore 243 = .ok (.aload_n 0, 1) := by decide +kernel
theorem d_R_explore_244 : decode b_R_explore 244 = .ok (.getfield 44, 3) := by decide +kernel
theorem d_R_explore_247 : decode b_R_explore 247 = .ok (.bipush 12, 2) := by decide +kernel
theorem d_R_explore_249 : decode b_R_explore 249 = .ok (.iload 5, 2) := by decide +kernel
theorem d_R_explore_251 : decode b_R_explore 251 = .ok (.imul, 1) := by decide +kernel
theorem d_R_explore_252 : decode b_R_explore 252 = .ok (.iload 6, 2) := by decide +kernel
theorem d_R_explore_254 : decode b_R_explore 254 = .ok (.iadd, 1) := by decide +kernel
theorem d_R_explore_255 : decode b_R_explore 255 = .ok (.iload 7, 2) := by decide +kernel
theorem d_R_explore_257 : decode b_R_explore 257 = .ok (.bipush (-2), 2) := by decide +kernel
theorem d_R_explore_259 : decode b_R_explore 259 = .ok (.if_icmp .le 7, 3) := by decide +kernel
theorem d_R_explore_262 : decode b_R_explore 262 = .ok (.iconst 1, 1) := by decide +kernel
theorem d_R_explore_263 : decode b_R_explore 263 = .ok (.goto 4, 3) := by decide +kernel
theorem d_R_explore_266 : decode b_R_explore 266 = .ok (.iconst 0, 1) := by decide +kernel
theorem d_R_explore_267 : decode b_R_explore 267 = .ok (.bastore, 1) := by decide +kernel
theorem d_R_explore_268 : decode b_R_explore 268 = .ok (.aload_n 0, 1) := by decide +kernel
theorem d_R_explore_269 : decode b_R_explore 269 = .ok (.getfield 41, 3) := by decide +kernel
theorem d_R_explore_272 : decode b_R_explore 272 = .ok (.bipush 12, 2) := by decide +kernel
theorem d_R_explore_274 : decode b_R_explore 274 = .ok (.iload 5, 2) := by decide +kernel
theorem d_R_explore_276 : decode b_R_explore 276 = .ok (.imul, 1) := by decide +kernel
theorem d_R_explore_277 : decode b_R_explore 277 = .ok (.iload 6, 2) := by decide +kernel
theorem d_R_explore_279 : decode b_R_explore 279 = .ok (.iadd, 1) := by decide +kernel
theorem d_R_explore_280 : decode b_R_explore 280 = .ok (.iload 7, 2) := by decide +kernel
theorem d_R_explore_282 : decode b_R_explore 282 = .ok (.ifCond .ge 7, 3) := by decide +kernel
theorem d_R_explore_285 : decode b_R_explore 285 = .ok (.iconst (-1), 1) := by decide +kernel
theorem d_R_explore_286 : decode b_R_explore 286 = .ok (.goto 10, 3) := by decide +kernel
theorem d_R_explore_289 : decode b_R_explore 289 = .ok (.aload_n 0, 1) := by decide +kernel
theorem d_R_explore_290 : decode b_R_explore 290 = .ok (.iload_n 1, 1) := by decide +kernel
theorem d_R_explore_291 : decode b_R_explore 291 = .ok (.iload 7, 2) := by decide +kernel
theorem d_R_explore_293 : decode b_R_explore 293 = .ok (.invokevirtual 121, 3) := by decide +kernel
theorem d_R_explore_296 : decode b_R_explore 296 = .ok (.iastore, 1) := by decide +kernel
theorem d_R_explore_297 : decode b_R_explore 297 = .ok (.iload 7, 2) := by decide +kernel
theorem d_R_explore_299 : decode b_R_explore 299 = .ok (.ifCond .lt 21, 3) := by decide +kernel
theorem d_R_explore_302 : decode b_R_explore 302 = .ok (.aload_n 0, 1) := by decide +kernel
theorem d_R_explore_303 : decode b_R_explore 303 = .ok (.getfield 41, 3) := by decide +kernel
theorem d_R_explore_306 : decode b_R_explore 306 = .ok (.bipush 12, 2) := by decide +kernel
theorem d_R_explore_308 : decode b_R_explore 308 = .ok (.iload 5, 2) := by decide +kernel
theorem d_R_explore_310 : decode b_R_explore 310 = .ok (.imul, 1) := by decide +kernel
theorem d_R_explore_311 : decode b_R_explore 311 = .ok (.iload 6, 2) := by decide +kernel
theorem d_R_explore_313 : decode b_R_explore 313 = .ok (.iadd, 1) := by decide +kernel
theorem d_R_explore_314 : decode b_R_explore 314 = .ok (.iaload, 1) := by decide +kernel
theorem d_R_explore_315 : decode b_R_explore 315 = .ok (.ifCond .ge 5, 3) := by decide +kernel
theorem d_R_explore_318 : decode b_R_explore 318 = .ok (.iconst 0, 1) := by decide +kernel
theorem d_R_explore_319 : decode b_R_explore 319 = .ok (.ireturn, 1) := by decide +kernel
theorem d_R_explore_320 : decode b_R_explore 320 = .ok (.iinc 6 1, 3) := by decide +kernel
theorem d_R_explore_323 : decode b_R_explore 323 = .ok (.goto (-103), 3) := by decide +kernel
theorem d_R_explore_326 : decode b_R_explore 326 = .ok (.iinc 4 1, 3) := by decide +kernel
theorem d_R_explore_329 : decode b_R_explore 329 = .ok (.goto (-264), 3) := by decide +kernel
theorem d_R_explore_332 : decode b_R_explore 332 = .ok (.iconst 1, 1) := by decide +kernel
theorem d_R_explore_333 : decode b_R_explore 333 = .ok (.ireturn, 1) := by decide +kernel
theorem d_R_good_0 : decode b_R_good 0 = .ok (.aload_n 0, 1) := by decide +kernel
theorem d_R_good_1 : decode b_R_good 1 = .ok (.getfield 41, 3) := by decide +kernel
theorem d_R_good_4 : decode b_R_good 4 = .ok (.bipush 12, 2) := by decide +kernel
theorem d_R_good_6 : decode b_R_good 6 = .ok (.sipush 200, 3) := by decide +kernel
theorem d_R_good_9 : decode b_R_good 9 = .ok (.iload_n 1, 1) := by decide +kernel
theorem d_R_good_10 : decode b_R_good 10 = .ok (.imul, 1) := by decide +kernel
theorem d_R_good_11 : decode b_R_good 11 = .ok (.iload_n 2, 1) := by decide +kernel
theorem d_R_good_12 : decode b_R_good 12 = .ok (.iadd, 1) := by decide +kernel
theorem d_R_good_13 : decode b_R_good 13 = .ok (.imul, 1) := by decide +kernel
theorem d_R_good_14 : decode b_R_good 14 = .ok (.iload_n 3, 1) := by decide +kernel
theorem d_R_good_15 : decode b_R_good 15 = .ok (.iadd, 1) := by decide +kernel
theorem d_R_good_16 : decode b_R_good 16 = .ok (.iaload, 1) := by decide +kernel
theorem d_R_good_17 : decode b_R_good 17 = .ok (.istore 4, 2) := by decide +kernel
theorem d_R_good_19 : decode b_R_good 19 = .ok (.iload 4, 2) := by decide +kernel
theorem d_R_good_21 : decode b_R_good 21 = .ok (.ifCond .lt 19, 3) := by decide +kernel
theorem d_R_good_24 : decode b_R_good 24 = .ok (.aload_n 0, 1) := by decide +kernel
theorem d_R_good_25 : decode b_R_good 25 = .ok (.getfield 50, 3) := by decide +kernel
theorem d_R_good_28 : decode b_R_good 28 = .ok (.sipush 200, 3) := by decide +kernel
theorem d_R_good_31 : decode b_R_good 31 = .ok (.iload_n 1, 1) := by decide +kernel
theorem d_R_good_32 : decode b_R_good 32 = .ok (.imul, 1) := by decide +kernel
theorem d_R_good_33 : decode b_R_good 33 = .ok (.iload 4, 2) := by decide +kernel
theorem d_R_good_35 : decode b_R_good 35 = .ok (.iadd, 1) := by decide +kernel
theorem d_R_good_36 : decode b_R_good 36 = .ok (.baload, 1) := by decide +kernel
theorem d_R_good_37 : decode b_R_good 37 = .ok (.ifCond .eq 7, 3) := by decide +kernel
theorem d_R_good_40 : decode b_R_good 40 = .ok (.iconst (-1), 1) := by decide +kernel
theorem d_R_good_41 : decode b_R_good 41 = .ok (.goto 5, 3) := by decide +kernel
theorem d_R_good_44 : decode b_R_good 44 = .ok (.iload 4, 2) := by decide +kernel
theorem d_R_good_46 : decode b_R_good 46 = .ok (.ireturn, 1) := by decide +kernel
theorem d_R_has_0 : decode b_R_has 0 = .ok (.iconst 0, 1) := by decide +kernel
theorem d_R_has_1 : decode b_R_has 1 = .ok (.istore_n 3, 1) := by decide +kernel
theorem d_R_has_2 : decode b_R_has 2 = .ok (.iconst 0, 1) := by decide +kernel
theorem d_R_has_3 : decode b_R_has 3 = .ok (.istore 4, 2) := by decide +kernel
theorem d_R_has_5 : decode b_R_has 5 = .ok (.iload 4, 2) := by decide +kernel
theorem d_R_has_7 : decode b_R_has 7 = .ok (.aload_n 0, 1) := by decide +kernel
theorem d_R_has_8 : decode b_R_has 8 = .ok (.getfield 7, 3) := by decide +kernel
theorem d_R_has_11 : decode b_R_has 11 = .ok (.iload_n 1, 1) := by decide +kernel
theorem d_R_has_12 : decode b_R_has 12 = .ok (.iaload, 1) := by decide +kernel
theorem d_R_has_13 : decode b_R_has 13 = .ok (.if_icmp .ge 39, 3) := by decide +kernel
theorem d_R_has_16 : decode b_R_has 16 = .ok (.iload_n 3, 1) := by decide +kernel
theorem d_R_has_17 : decode b_R_has 17 = .ok (.ifCond .ne 23, 3) := by decide +kernel
theorem d_R_has_20 : decode b_R_has 20 = .ok (.aload_n 0, 1) := by decide +kernel
theorem d_R_has_21 : decode b_R_has 21 = .ok (.getfield 26, 3) := by decide +kernel
theorem d_R_has_24 : decode b_R_has 24 = .ok (.bipush 72, 2) := by decide +kernel
theorem d_R_has_26 : decode b_R_has 26 = .ok (.iload_n 1, 1) := by decide +kernel
theorem d_R_has_27 : decode b_R_has 27 = .ok (.imul, 1) := by decide +kernel
theorem d_R_has_28 : decode b_R_has 28 = .ok (.bipush 12, 2) := by decide +kernel
theorem d_R_has_30 : decode b_R_has 30 = .ok (.iload 4, 2) := by decide +kernel
theorem d_R_has_32 : decode b_R_has 32 = .ok (.imul, 1) := by decide +kernel
theorem d_R_has_33 : decode b_R_has 33 = .ok (.iadd, 1) := by decide +kernel
theorem d_R_has_34 : decode b_R_has 34 = .ok (.iload_n 2, 1) := by decide +kernel
theorem d_R_has_35 : decode b_R_has 35 = .ok (.iadd, 1) := by decide +kernel
theorem d_R_has_36 : decode b_R_has 36 = .ok (.iaload, 1) := by decide +kernel
theorem d_R_has_37 : decode b_R_has 37 = .ok (.ifCond .lt 7, 3) := by decide +kernel
theorem d_R_has_40 : decode b_R_has 40 = .ok (.iconst 1, 1) := by decide +kernel
theorem d_R_has_41 : decode b_R_has 41 = .ok (.goto 4, 3) := by decide +kernel
theorem d_R_has_44 : decode b_R_has 44 = .ok (.iconst 0, 1) := by decide +kernel
theorem d_R_has_45 : decode b_R_has 45 = .ok (.istore_n 3, 1) := by decide +kernel
theorem d_R_has_46 : decode b_R_has 46 = .ok (.iinc 4 1, 3) := by decide +kernel
theorem d_R_has_49 : decode b_R_has 49 = .ok (.goto (-44), 3) := by decide +kernel
theorem d_R_has_52 : decode b_R_has 52 = .ok (.iload_n 3, 1) := by decide +kernel
theorem d_R_has_53 : decode b_R_has 53 = .ok (.ireturn, 1) := by decide +kernel
theorem d_R_here_0 : decode b_R_here 0 = .ok (.aload_n 0, 1) := by decide +kernel
theorem d_R_here_1 : decode b_R_here 1 = .ok (.aload_n 0, 1) := by decide +kernel
theorem d_R_here_2 : decode b_R_here 2 = .ok (.getfield 91, 3) := by decide +kernel
theorem d_R_here_5 : decode b_R_here 5 = .ok (.ifCond .ne 7, 3) := by decide +kernel
theorem d_R_here_8 : decode b_R_here 8 = .ok (.iconst 1, 1) := by decide +kernel
theorem d_R_here_9 : decode b_R_here 9 = .ok (.goto 4, 3) := by decide +kernel
theorem d_R_here_12 : decode b_R_here 12 = .ok (.iconst 0, 1) := by decide +kernel
theorem d_R_here_13 : decode b_R_here 13 = .ok (.iconst 0, 1) := by decide +kernel
theorem d_R_here_14 : decode b_R_here 14 = .ok (.invokevirtual 101, 3) := by decide +kernel
theorem d_R_here_17 : decode b_R_here 17 = .ok (.ifCond .eq 7, 3) := by decide +kernel
theorem d_R_here_20 : decode b_R_here 20 = .ok (.iconst 0, 1) := by decide +kernel
theorem d_R_here_21 : decode b_R_here 21 = .ok (.goto 12, 3) := by decide +kernel
theorem d_R_here_24 : decode b_R_here 24 = .ok (.aload_n 0, 1) := by decide +kernel
theorem d_R_here_25 : decode b_R_here 25 = .ok (.getfield 59, 3) := by decide +kernel
theorem d_R_here_28 : decode b_R_here 28 = .ok (.aload_n 0, 1) := by decide +kernel
theorem d_R_here_29 : decode b_R_here 29 = .ok (.getfield 151, 3) := by decide +kernel
theorem d_R_here_32 : decode b_R_here 32 = .ok (.iaload, 1) := by decide +kernel
theorem d_R_here_33 : decode b_R_here 33 = .ok (.ireturn, 1) := by decide +kernel
theorem d_R_home_0 : decode b_R_home 0 = .ok (.aload_n 0, 1) := by decide +kernel
theorem d_R_home_1 : decode b_R_home 1 = .ok (.aload_n 0, 1) := by decide +kernel
theorem d_R_home_2 : decode b_R_home 2 = .ok (.getfield 91, 3) := by decide +kernel
theorem d_R_home_5 : decode b_R_home 5 = .ok (.ifCond .ne 7, 3) := by decide +kernel
theorem d_R_home_8 : decode b_R_home 8 = .ok (.iconst 1, 1) := by decide +kernel
theorem d_R_home_9 : decode b_R_home 9 = .ok (.goto 4, 3) := by decide +kernel
theorem d_R_home_12 : decode b_R_home 12 = .ok (.iconst 0, 1) := by decide +kernel
theorem d_R_home_13 : decode b_R_home 13 = .ok (.iconst 0, 1) := by decide +kernel
theorem d_R_home_14 : decode b_R_home 14 = .ok (.invokevirtual 101, 3) := by decide +kernel
theorem d_R_home_17 : decode b_R_home 17 = .ok (.ifCond .eq 7, 3) := by decide +kernel
theorem d_R_home_20 : decode b_R_home 20 = .ok (.iconst 0, 1) := by decide +kernel
theorem d_R_home_21 : decode b_R_home 21 = .ok (.goto 12, 3) := by decide +kernel
theorem d_R_home_24 : decode b_R_home 24 = .ok (.aload_n 0, 1) := by decide +kernel
theorem d_R_home_25 : decode b_R_home 25 = .ok (.aload_n 0, 1) := by decide +kernel
theorem d_R_home_26 : decode b_R_home 26 = .ok (.getfield 151, 3) := by decide +kernel
theorem d_R_home_29 : decode b_R_home 29 = .ok (.iconst 0, 1) := by decide +kernel
theorem d_R_home_30 : decode b_R_home 30 = .ok (.invokevirtual 154, 3) := by decide +kernel
theorem d_R_home_33 : decode b_R_home 33 = .ok (.ireturn, 1) := by decide +kernel
theorem d_R_init_0 : decode b_R_init 0 = .ok (.aload_n 0, 1) := by decide +kernel
theorem d_R_init_1 : decode b_R_init 1 = .ok (.invokespecial 1, 3) := by decide +kernel
theorem d_R_init_4 : decode b_R_init 4 = .ok (.aload_n 0, 1) := by decide +kernel
theorem d_R_init_5 : decode b_R_init 5 = .ok (.iconst 4, 1) := by decide +kernel
theorem d_R_init_6 : decode b_R_init 6 = .ok (.newarray .int, 2) := by decide +kernel
theorem d_R_init_8 : decode b_R_init 8 = .ok (.putfield 7, 3) := by decide +kernel
theorem d_R_init_11 : decode b_R_init 11 = .ok (.aload_n 0, 1) := by decide +kernel
theorem d_R_init_12 : decode b_R_init 12 = .ok (.iconst 4, 1) := by decide +kernel
theorem d_R_init_13 : decode b_R_init 13 = .ok (.newarray .boolean, 2) := by decide +kernel
theorem d_R_init_15 : decode b_R_init 15 = .ok (.putfield 13, 3) := by decide +kernel
theorem d_R_init_18 : decode b_R_init 18 = .ok (.aload_n 0, 1) := by decide +kernel
theorem d_R_init_19 : decode b_R_init 19 = .ok (.iconst 4, 1) := by decide +kernel
theorem d_R_init_20 : decode b_R_init 20 = .ok (.newarray .int, 2) := by decide +kernel
theorem d_R_init_22 : decode b_R_init 22 = .ok (.putfield 17, 3) := by decide +kernel
theorem d_R_init_25 : decode b_R_init 25 = .ok (.aload_n 0, 1) := by decide +kernel
theorem d_R_init_26 : decode b_R_init 26 = .ok (.bipush 24, 2) := by decide +kernel
theorem d_R_init_28 : decode b_R_init 28 = .ok (.newarray .boolean, 2) := by decide +kernel
theorem d_R_init_30 : decode b_R_init 30 = .ok (.putfield 20, 3) := by decide +kernel
theorem d_R_init_33 : decode b_R_init 33 = .ok (.aload_n 0, 1) := by decide +kernel
theorem d_R_init_34 : decode b_R_init 34 = .ok (.bipush 24, 2) := by decide +kernel
theorem d_R_init_36 : decode b_R_init 36 = .ok (.newarray .boolean, 2) := by decide +kernel
theorem d_R_init_38 : decode b_R_init 38 = .ok (.putfield 23, 3) := by decide +kernel
theorem d_R_init_41 : decode b_R_init 41 = .ok (.aload_n 0, 1) := by decide +kernel
theorem d_R_init_42 : decode b_R_init 42 = .ok (.sipush 288, 3) := by decide +kernel
theorem d_R_init_45 : decode b_R_init 45 = .ok (.newarray .int, 2) := by decide +kernel
theorem d_R_init_47 : decode b_R_init 47 = .ok (.putfield 26, 3) := by decide +kernel
theorem d_R_init_50 : decode b_R_init 50 = .ok (.aload_n 0, 1) := by decide +kernel
theorem d_R_init_51 : decode b_R_init 51 = .ok (.bipush 12, 2) := by decide +kernel
theorem d_R_init_53 : decode b_R_init 53 = .ok (.newarray .boolean, 2) := by decide +kernel
theorem d_R_init_55 : decode b_R_init 55 = .ok (.putfield 29, 3) := by decide +kernel
theorem d_R_init_58 : decode b_R_init 58 = .ok (.aload_n 0, 1) := by decide +kernel
theorem d_R_init_59 : decode b_R_init 59 = .ok (.bipush 12, 2) := by decide +kernel
theorem d_R_init_61 : decode b_R_init 61 = .ok (.newarray .boolean, 2) := by decide +kernel
theorem d_R_init_63 : decode b_R_init 63 = .ok (.putfield 32, 3) := by decide +kernel
theorem d_R_init_66 : decode b_R_init 66 = .ok (.aload_n 0, 1) := by decide +kernel
theorem d_R_init_67 : decode b_R_init 67 = .ok (.iconst 3, 1) := by decide +kernel
theorem d_R_init_68 : decode b_R_init 68 = .ok (.newarray .int, 2) := by decide +kernel
theorem d_R_init_70 : decode b_R_init 70 = .ok (.putfield 35, 3) := by decide +kernel
theorem d_R_init_73 : decode b_R_init 73 = .ok (.aload_n 0, 1) := by decide +kernel
theorem d_R_init_74 : decode b_R_init 74 = .ok (.sipush 600, 3) := by decide +kernel
theorem d_R_init_77 : decode b_R_init 77 = .ok (.newarray .int, 2) := by decide +kernel
theorem d_R_init_79 : decode b_R_init 79 = .ok (.putfield 38, 3) := by decide +kernel
theorem d_R_init_82 : decode b_R_init 82 = .ok (.aload_n 0, 1) := by decide +kernel
theorem d_R_init_83 : decode b_R_init 83 = .ok (.sipush 7200, 3) := by decide +kernel
theorem d_R_init_86 : decode b_R_init 86 = .ok (.newarray .int, 2) := by decide +kernel
theorem d_R_init_88 : decode b_R_init 88 = .ok (.putfield 41, 3) := by decide +kernel
theorem d_R_init_91 : decode b_R_init 91 = .ok (.aload_n 0, 1) := by decide +kernel
theorem d_R_init_92 : decode b_R_init 92 = .ok (.sipush 7200, 3) := by decide +kernel
theorem d_R_init_95 : decode b_R_init 95 = .ok (.newarray .boolean, 2) := by decide +kernel
theorem d_R_init_97 : decode b_R_init 97 = .ok (.putfield 44, 3) := by decide +kernel
theorem d_R_init_100 : decode b_R_init 100 = .ok (.aload_n 0, 1) := by decide +kernel
theorem d_R_init_101 : decode b_R_init 101 = .ok (.sipush 600, 3) := by decide +kernel
theorem d_R_init_104 : decode b_R_init 104 = .ok (.newarray .boolean, 2) := by decide +kernel
theorem d_R_init_106 : decode b_R_init 106 = .ok (.putfield 47, 3) := by decide +kernel
theorem d_R_init_109 : decode b_R_init 109 = .ok (.aload_n 0, 1) := by decide +kernel
theorem d_R_init_110 : decode b_R_init 110 = .ok (.sipush 600, 3) := by decide +kernel
theorem d_R_init_113 : decode b_R_init 113 = .ok (.newarray .boolean, 2) := by decide +kernel
theorem d_R_init_115 : decode b_R_init 115 = .ok (.putfield 50, 3) := by decide +kernel
theorem d_R_init_118 : decode b_R_init 118 = .ok (.aload_n 0, 1) := by decide +kernel
theorem d_R_init_119 : decode b_R_init 119 = .ok (.sipush 600, 3) := by decide +kernel
theorem d_R_init_122 : decode b_R_init 122 = .ok (.newarray .boolean, 2) := by decide +kernel
theorem d_R_init_124 : decode b_R_init 124 = .ok (.putfield 53, 3) := by decide +kernel
theorem d_R_init_127 : decode b_R_init 127 = .ok (.aload_n 0, 1) := by decide +kernel
theorem d_R_init_128 : decode b_R_init 128 = .ok (.sipush 200, 3) := by decide +kernel
theorem d_R_init_131 : decode b_R_init 131 = .ok (.newarray .int, 2) := by decide +kernel
theorem d_R_init_133 : decode b_R_init 133 = .ok (.putfield 56, 3) := by decide +kernel
theorem d_R_init_136 : decode b_R_init 136 = .ok (.aload_n 0, 1) := by decide +kernel
theorem d_R_init_137 : decode b_R_init 137 = .ok (.sipush 200, 3) := by decide +kernel
theorem d_R_init_140 : decode b_R_init 140 = .ok (.newarray .int, 2) := by decide +kernel
theorem d_R_init_142 : decode b_R_init 142 = .ok (.putfield 59, 3) := by decide +kernel
theorem d_R_init_145 : decode b_R_init 145 = .ok (.aload_n 0, 1) := by decide +kernel
theorem d_R_init_146 : decode b_R_init 146 = .ok (.sipush 200, 3) := by decide +kernel
theorem d_R_init_149 : decode b_R_init 149 = .ok (.newarray .int, 2) := by decide +kernel
theorem d_R_init_151 : decode b_R_init 151 = .ok (.putfield 62, 3) := by decide +kernel
theorem d_R_init_154 : decode b_R_init 154 = .ok (.aload_n 0, 1) := by decide +kernel
theorem d_R_init_155 : decode b_R_init 155 = .ok (.sipush 200, 3) := by decide +kernel
theorem d_R_init_158 : decode b_R_init 158 = .ok (.newarray .int, 2) := by decide +kernel
theorem d_R_init_160 : decode b_R_init 160 = .ok (.putfield 65, 3) := by decide +kernel
theorem d_R_init_163 : decode b_R_init 163 = .ok (.aload_n 0, 1) := by decide +kernel
theorem d_R_init_164 : decode b_R_init 164 = .ok (.sipush 200, 3) := by decide +kernel
theorem d_R_init_167 : decode b_R_init 167 = .ok (.newarray .int, 2) := by decide +kernel
theorem d_R_init_169 : decode b_R_init 169 = .ok (.putfield 68, 3) := by decide +kernel
theorem d_R_init_172 : decode b_R_init 172 = .ok (.aload_n 0, 1) := by decide +kernel
theorem d_R_init_173 : decode b_R_init 173 = .ok (.sipush 200, 3) := by decide +kernel
theorem d_R_init_176 : decode b_R_init 176 = .ok (.newarray .int, 2) := by decide +kernel
theorem d_R_init_178 : decode b_R_init 178 = .ok (.putfield 71, 3) := by decide +kernel
theorem d_R_init_181 : decode b_R_init 181 = .ok (.aload_n 0, 1) := by decide +kernel
theorem d_R_init_182 : decode b_R_init 182 = .ok (.sipush 200, 3) := by decide +kernel
theorem d_R_init_185 : decode b_R_init 185 = .ok (.newarray .int, 2) := by decide +kernel
theorem d_R_init_187 : decode b_R_init 187 = .ok (.putfield 74, 3) := by decide +kernel
theorem d_R_init_190 : decode b_R_init 190 = .ok (.aload_n 0, 1) := by decide +kernel
theorem d_R_init_191 : decode b_R_init 191 = .ok (.sipush 200, 3) := by decide +kernel
theorem d_R_init_194 : decode b_R_init 194 = .ok (.newarray .int, 2) := by decide +kernel
theorem d_R_init_196 : decode b_R_init 196 = .ok (.putfield 77, 3) := by decide +kernel
theorem d_R_init_199 : decode b_R_init 199 = .ok (.aload_n 0, 1) := by decide +kernel
theorem d_R_init_200 : decode b_R_init 200 = .ok (.sipush 200, 3) := by decide +kernel
theorem d_R_init_203 : decode b_R_init 203 = .ok (.newarray .int, 2) := by decide +kernel
theorem d_R_init_205 : decode b_R_init 205 = .ok (.putfield 80, 3) := by decide +kernel
theorem d_R_init_208 : decode b_R_init 208 = .ok (.iconst 0, 1) := by decide +kernel
theorem d_R_init_209 : decode b_R_init 209 = .ok (.istore_n 1, 1) := by decide +kernel
theorem d_R_init_210 : decode b_R_init 210 = .ok (.iload_n 1, 1) := by decide +kernel
theorem d_R_init_211 : decode b_R_init 211 = .ok (.sipush 288, 3) := by decide +kernel
theorem d_R_init_214 : decode b_R_init 214 = .ok (.if_icmp .ge 16, 3) := by decide +kernel
theorem d_R_init_217 : decode b_R_init 217 = .ok (.aload_n 0, 1) := by decide +kernel
theorem d_R_init_218 : decode b_R_init 218 = .ok (.getfield 26, 3) := by decide +kernel
theorem d_R_init_221 : decode b_R_init 221 = .ok (.iload_n 1, 1) := by decide +kernel
theorem d_R_init_222 : decode b_R_init 222 = .ok (.iconst (-1), 1) := by decide +kernel
theorem d_R_init_223 : decode b_R_init 223 = .ok (.iastore, 1) := by decide +kernel
theorem d_R_init_224 : decode b_R_init 224 = .ok (.iinc 1 1, 3) := by decide +kernel
theorem d_R_init_227 : decode b_R_init 227 = .ok (.goto (-17), 3) := by decide +kernel
theorem d_R_init_230 : decode b_R_init 230 = .ok (.return_, 1) := by decide +kernel
theorem d_R_isModel_0 : decode b_R_isModel 0 = .ok (.iconst 0, 1) := by decide +kernel
theorem d_R_isModel_1 : decode b_R_isModel 1 = .ok (.istore_n 2, 1) := by decide +kernel
theorem d_R_isModel_2 : decode b_R_isModel 2 = .ok (.iconst 1, 1) := by decide +kernel
theorem d_R_isModel_3 : decode b_R_isModel 3 = .ok (.istore_n 3, 1) := by decide +kernel
theorem d_R_isModel_4 : decode b_R_isModel 4 = .ok (.iconst 0, 1) := by decide +kernel
theorem d_R_isModel_5 : decode b_R_isModel 5 = .ok (.istore 4, 2) := by decide +kernel
theorem d_R_isModel_7 : decode b_R_isModel 7 = .ok (.iload 4, 2) := by decide +kernel
theorem d_R_isModel_9 : decode b_R_isModel 9 = .ok (.aload_n 0, 1) := by decide +kernel
theorem d_R_isModel_10 : decode b_R_isModel 10 = .ok (.getfield 98, 3) := by decide +kernel
theorem d_R_isModel_13 : decode b_R_isModel 13 = .ok (.if_icmp .ge 59, 3) := by decide +kernel
theorem d_R_isModel_16 : decode b_R_isModel 16 = .ok (.iload_n 2, 1) := by decide +kernel
theorem d_R_isModel_17 : decode b_R_isModel 17 = .ok (.ifCond .ne 13, 3) := by decide +kernel
theorem d_R_isModel_20 : decode b_R_isModel 20 = .ok (.aload_n 0, 1) := by decide +kernel
theorem d_R_isModel_21 : decode b_R_isModel 21 = .ok (.getfield 13, 3) := by decide +kernel
theorem d_R_isModel_24 : decode b_R_isModel 24 = .ok (.iload 4, 2) := by decide +kernel
theorem d_R_isModel_26 : decode b_R_isModel 26 = .ok (.baload, 1) := by decide +kernel
theorem d_R_isModel_27 : decode b_R_isModel 27 = .ok (.ifCond .eq 7, 3) := by decide +kernel
theorem d_R_isModel_30 : decode b_R_isModel 30 = .ok (.iconst 1, 1) := by decide +kernel
theorem d_R_isModel_31 : decode b_R_isModel 31 = .ok (.goto 4, 3) := by decide +kernel
theorem d_R_isModel_34 : decode b_R_isModel 34 = .ok (.iconst 0, 1) := by decide +kernel
theorem d_R_isModel_35 : decode b_R_isModel 35 = .ok (.istore_n 2, 1) := by decide +kernel
theorem d_R_isModel_36 : decode b_R_isModel 36 = .ok (.iload_n 3, 1) := by decide +kernel
theorem d_R_isModel_37 : decode b_R_isModel 37 = .ok (.ifCond .eq 27, 3) := by decide +kernel
theorem d_R_isModel_40 : decode b_R_isModel 40 = .ok (.aload_n 0, 1) := by decide +kernel
theorem d_R_isModel_41 : decode b_R_isModel 41 = .ok (.iload 4, 2) := by decide +kernel
theorem d_R_isModel_43 : decode b_R_isModel 43 = .ok (.iload_n 1, 1) := by decide +kernel
theorem d_R_isModel_44 : decode b_R_isModel 44 = .ok (.invokevirtual 111, 3) := by decide +kernel
theorem d_R_isModel_47 : decode b_R_isModel 47 = .ok (.ifCond .eq 13, 3) := by decide +kernel
theorem d_R_isModel_50 : decode b_R_isModel 50 = .ok (.aload_n 0, 1) := by decide +kernel
theorem d_R_isModel_51 : decode b_R_isModel 51 = .ok (.getfield 17, 3) := by decide +kernel
theorem d_R_isModel_54 : decode b_R_isModel 54 = .ok (.iload 4, 2) := by decide +kernel
theorem d_R_isModel_56 : decode b_R_isModel 56 = .ok (.iaload, 1) := by decide +kernel
theorem d_R_isModel_57 : decode b_R_isModel 57 = .ok (.ifCond .lt 7, 3) := by decide +kernel
theorem d_R_isModel_60 : decode b_R_isModel 60 = .ok (.iconst 1, 1) := by decide +kernel
theorem d_R_isModel_61 : decode b_R_isModel 61 = .ok (.goto 4, 3) := by decide +kernel
theorem d_R_isModel_64 : decode b_R_isModel 64 = .ok (.iconst 0, 1) := by decide +kernel
theorem d_R_isModel_65 : decode b_R_isModel 65 = .ok (.istore_n 3, 1) := by decide +kernel
theorem d_R_isModel_66 : decode b_R_isModel 66 = .ok (.iinc 4 1, 3) := by decide +kernel
theorem d_R_isModel_69 : decode b_R_isModel 69 = .ok (.goto (-62), 3) := by decide +kernel
theorem d_R_isModel_72 : decode b_R_isModel 72 = .ok (.iload_n 2, 1) := by decide +kernel
theorem d_R_isModel_73 : decode b_R_isModel 73 = .ok (.ifCond .eq 11, 3) := by decide +kernel
theorem d_R_isModel_76 : decode b_R_isModel 76 = .ok (.iload_n 3, 1) := by decide +kernel
theorem d_R_isModel_77 : decode b_R_isModel 77 = .ok (.ifCond .eq 7, 3) := by decide +kernel
theorem d_R_isModel_80 : decode b_R_isModel 80 = .ok (.iconst 1, 1) := by decide +kernel
theorem d_R_isModel_81 : decode b_R_isModel 81 = .ok (.goto 4, 3) := by decide +kernel
theorem d_R_isModel_84 : decode b_R_isModel 84 = .ok (.iconst 0, 1) := by decide +kernel
theorem d_R_isModel_85 : decode b_R_isModel 85 = .ok (.ireturn, 1) := by decide +kernel
theorem d_R_isNoState_0 : decode b_R_isNoState 0 = .ok (.iload_n 1, 1) := by decide +kernel
theorem d_R_isNoState_1 : decode b_R_isNoState 1 = .ok (.aload_n 0, 1) := by decide +kernel
theorem d_R_isNoState_2 : decode b_R_isNoState 2 = .ok (.getfield 98, 3) := by decide +kernel
theorem d_R_isNoState_5 : decode b_R_isNoState 5 = .ok (.invokestatic 94, 3) := by decide +kernel
theorem d_R_isNoState_8 : decode b_R_isNoState 8 = .ok (.ifCond .ne 16, 3) := by decide +kernel
theorem d_R_isNoState_11 : decode b_R_isNoState 11 = .ok (.iload_n 2, 1) := by decide +kernel
theorem d_R_isNoState_12 : decode b_R_isNoState 12 = .ok (.aload_n 0, 1) := by decide +kernel
theorem d_R_isNoState_13 : decode b_R_isNoState 13 = .ok (.getfield 7, 3) := by decide +kernel
theorem d_R_isNoState_16 : decode b_R_isNoState 16 = .ok (.iload_n 1, 1) := by decide +kernel
theorem d_R_isNoState_17 : decode b_R_isNoState 17 = .ok (.iaload, 1) := by decide +kernel
theorem d_R_isNoState_18 : decode b_R_isNoState 18 = .ok (.invokestatic 94, 3) := by decide +kernel
theorem d_R_isNoState_21 : decode b_R_isNoState 21 = .ok (.ifCond .eq 7, 3) := by decide +kernel
theorem d_R_isNoState_24 : decode b_R_isNoState 24 = .ok (.iconst 1, 1) := by decide +kernel
theorem d_R_isNoState_25 : decode b_R_isNoState 25 = .ok (.goto 4, 3) := by decide +kernel
theorem d_R_isNoState_28 : decode b_R_isNoState 28 = .ok (.iconst 0, 1) := by decide +kernel
theorem d_R_isNoState_29 : decode b_R_isNoState 29 = .ok (.ireturn, 1) := by decide +kernel
theorem d_R_isRule_0 : decode b_R_isRule 0 = .ok (.iload_n 1, 1) := by decide +kernel
theorem d_R_isRule_1 : decode b_R_isRule 1 = .ok (.aload_n 0, 1) := by decide +kernel
theorem d_R_isRule_2 : decode b_R_isRule 2 = .ok (.getfield 98, 3) := by decide +kernel
theorem d_R_isRule_5 : decode b_R_isRule 5 = .ok (.invokestatic 94, 3) := by decide +kernel
theorem d_R_isRule_8 : decode b_R_isRule 8 = .ok (.ifCond .ne 16, 3) := by decide +kernel
theorem d_R_isRule_11 : decode b_R_isRule 11 = .ok (.aload_n 0, 1) := by decide +kernel
theorem d_R_isRule_12 : decode b_R_isRule 12 = .ok (.getfield 13, 3) := by decide +kernel
theorem d_R_isRule_15 : decode b_R_isRule 15 = .ok (.iload_n 1, 1) := by decide +kernel
theorem d_R_isRule_16 : decode b_R_isRule 16 = .ok (.baload, 1) := by decide +kernel
theorem d_R_isRule_17 : decode b_R_isRule 17 = .ok (.ifCond .ne 7, 3) := by decide +kernel
theorem d_R_isRule_20 : decode b_R_isRule 20 = .ok (.iconst 1, 1) := by decide +kernel
theorem d_R_isRule_21 : decode b_R_isRule 21 = .ok (.goto 4, 3) := by decide +kernel
theorem d_R_isRule_24 : decode b_R_isRule 24 = .ok (.iconst 0, 1) := by decide +kernel
theorem d_R_isRule_25 : decode b_R_isRule 25 = .ok (.ireturn, 1) := by decide +kernel
theorem d_R_isThere_0 : decode b_R_isThere 0 = .ok (.aload_n 0, 1) := by decide +kernel
theorem d_R_isThere_1 : decode b_R_isThere 1 = .ok (.iload_n 2, 1) := by decide +kernel
theorem d_R_isThere_2 : decode b_R_isThere 2 = .ok (.invokevirtual 138, 3) := by decide +kernel
theorem d_R_isThere_5 : decode b_R_isThere 5 = .ok (.ifCond .eq 12, 3) := by decide +kernel
theorem d_R_isThere_8 : decode b_R_isThere 8 = .ok (.aload_n 0, 1) := by decide +kernel
theorem d_R_isThere_9 : decode b_R_isThere 9 = .ok (.iload_n 1, 1) := by decide +kernel
theorem d_R_isThere_10 : decode b_R_isThere 10 = .ok (.iload_n 2, 1) := by decide +kernel
theorem d_R_isThere_11 : decode b_R_isThere 11 = .ok (.invokevirtual 141, 3) := by decide +kernel
theorem d_R_isThere_14 : decode b_R_isThere 14 = .ok (.ifCond .ne 5, 3) := by decide +kernel
theorem d_R_isThere_17 : decode b_R_isThere 17 = .ok (.iconst 0, 1) := by decide +kernel
theorem d_R_isThere_18 : decode b_R_isThere 18 = .ok (.ireturn, 1) := by decide +kernel
theorem d_R_isThere_19 : decode b_R_isThere 19 = .ok (.aload_n 0, 1) := by decide +kernel
theorem d_R_isThere_20 : decode b_R_isThere 20 = .ok (.iload_n 1, 1) := by decide +kernel
theorem d_R_isThere_21 : decode b_R_isThere 21 = .ok (.invokevirtual 144, 3) := by decide +kernel
theorem d_R_isThere_24 : decode b_R_isThere 24 = .ok (.aload_n 0, 1) := by decide +kernel
theorem d_R_isThere_25 : decode b_R_isThere 25 = .ok (.getfield 50, 3) := by decide +kernel
theorem d_R_isThere_28 : decode b_R_isThere 28 = .ok (.sipush 200, 3) := by decide +kernel
theorem d_R_isThere_31 : decode b_R_isThere 31 = .ok (.iload_n 1, 1) := by decide +kernel
theorem d_R_isThere_32 : decode b_R_isThere 32 = .ok (.imul, 1) := by decide +kernel
theorem d_R_isThere_33 : decode b_R_isThere 33 = .ok (.baload, 1) := by decide +kernel
theorem d_R_isThere_34 : decode b_R_isThere 34 = .ok (.ifCond .ne 7, 3) := by decide +kernel
theorem d_R_isThere_37 : decode b_R_isThere 37 = .ok (.iconst 1, 1) := by decide +kernel
theorem d_R_isThere_38 : decode b_R_isThere 38 = .ok (.goto 4, 3) := by decide +kernel
theorem d_R_isThere_41 : decode b_R_isThere 41 = .ok (.iconst 0, 1) := by decide +kernel
theorem d_R_isThere_42 : decode b_R_isThere 42 = .ok (.ireturn, 1) := by decide +kernel
