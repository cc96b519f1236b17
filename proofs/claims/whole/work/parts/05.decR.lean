theorem d_R_keep_0 : decode b_R_keep 0 = .ok (.aload_n 0, 1) := by decide +kernel
theorem d_R_keep_1 : decode b_R_keep 1 = .ok (.getfield 50, 3) := by decide +kernel
theorem d_R_keep_4 : decode b_R_keep 4 = .ok (.iload_n 1, 1) := by decide +kernel
theorem d_R_keep_5 : decode b_R_keep 5 = .ok (.baload, 1) := by decide +kernel
theorem d_R_keep_6 : decode b_R_keep 6 = .ok (.ifCond .ne 12, 3) := by decide +kernel
theorem d_R_keep_9 : decode b_R_keep 9 = .ok (.aload_n 0, 1) := by decide +kernel
theorem d_R_keep_10 : decode b_R_keep 10 = .ok (.getfield 59, 3) := by decide +kernel
theorem d_R_keep_13 : decode b_R_keep 13 = .ok (.iload_n 1, 1) := by decide +kernel
theorem d_R_keep_14 : decode b_R_keep 14 = .ok (.iaload, 1) := by decide +kernel
theorem d_R_keep_15 : decode b_R_keep 15 = .ok (.ifCond .le 4, 3) := by decide +kernel
theorem d_R_keep_18 : decode b_R_keep 18 = .ok (.return_, 1) := by decide +kernel
theorem d_R_keep_19 : decode b_R_keep 19 = .ok (.aload_n 0, 1) := by decide +kernel
theorem d_R_keep_20 : decode b_R_keep 20 = .ok (.getfield 56, 3) := by decide +kernel
theorem d_R_keep_23 : decode b_R_keep 23 = .ok (.aload_n 0, 1) := by decide +kernel
theorem d_R_keep_24 : decode b_R_keep 24 = .ok (.getfield 91, 3) := by decide +kernel
theorem d_R_keep_27 : decode b_R_keep 27 = .ok (.iload_n 1, 1) := by decide +kernel
theorem d_R_keep_28 : decode b_R_keep 28 = .ok (.iastore, 1) := by decide +kernel
theorem d_R_keep_29 : decode b_R_keep 29 = .ok (.aload_n 0, 1) := by decide +kernel
theorem d_R_keep_30 : decode b_R_keep 30 = .ok (.dup, 1) := by decide +kernel
theorem d_R_keep_31 : decode b_R_keep 31 = .ok (.getfield 91, 3) := by decide +kernel
theorem d_R_keep_34 : decode b_R_keep 34 = .ok (.iconst 1, 1) := by decide +kernel
theorem d_R_keep_35 : decode b_R_keep 35 = .ok (.iadd, 1) := by decide +kernel
theorem d_R_keep_36 : decode b_R_keep 36 = .ok (.putfield 91, 3) := by decide +kernel
theorem d_R_keep_39 : decode b_R_keep 39 = .ok (.aload_n 0, 1) := by decide +kernel
theorem d_R_keep_40 : decode b_R_keep 40 = .ok (.getfield 59, 3) := by decide +kernel
theorem d_R_keep_43 : decode b_R_keep 43 = .ok (.iload_n 1, 1) := by decide +kernel
theorem d_R_keep_44 : decode b_R_keep 44 = .ok (.aload_n 0, 1) := by decide +kernel
theorem d_R_keep_45 : decode b_R_keep 45 = .ok (.getfield 91, 3) := by decide +kernel
theorem d_R_keep_48 : decode b_R_keep 48 = .ok (.iastore, 1) := by decide +kernel
theorem d_R_keep_49 : decode b_R_keep 49 = .ok (.return_, 1) := by decide +kernel
theorem d_R_leads_0 : decode b_R_leads 0 = .ok (.aload_n 0, 1) := by decide +kernel
theorem d_R_leads_1 : decode b_R_leads 1 = .ok (.iload_n 1, 1) := by decide +kernel
theorem d_R_leads_2 : decode b_R_leads 2 = .ok (.iload_n 2, 1) := by decide +kernel
theorem d_R_leads_3 : decode b_R_leads 3 = .ok (.invokevirtual 161, 3) := by decide +kernel
theorem d_R_leads_6 : decode b_R_leads 6 = .ok (.ifCond .eq 5, 3) := by decide +kernel
theorem d_R_leads_9 : decode b_R_leads 9 = .ok (.iconst 0, 1) := by decide +kernel
theorem d_R_leads_10 : decode b_R_leads 10 = .ok (.ireturn, 1) := by decide +kernel
theorem d_R_leads_11 : decode b_R_leads 11 = .ok (.aload_n 0, 1) := by decide +kernel
theorem d_R_leads_12 : decode b_R_leads 12 = .ok (.iconst 0, 1) := by decide +kernel
theorem d_R_leads_13 : decode b_R_leads 13 = .ok (.aload_n 0, 1) := by decide +kernel
theorem d_R_leads_14 : decode b_R_leads 14 = .ok (.getfield 56, 3) := by decide +kernel
theorem d_R_leads_17 : decode b_R_leads 17 = .ok (.iload_n 1, 1) := by decide +kernel
theorem d_R_leads_18 : decode b_R_leads 18 = .ok (.iconst 1, 1) := by decide +kernel
theorem d_R_leads_19 : decode b_R_leads 19 = .ok (.isub, 1) := by decide +kernel
theorem d_R_leads_20 : decode b_R_leads 20 = .ok (.iaload, 1) := by decide +kernel
theorem d_R_leads_21 : decode b_R_leads 21 = .ok (.iload_n 2, 1) := by decide +kernel
theorem d_R_leads_22 : decode b_R_leads 22 = .ok (.invokevirtual 135, 3) := by decide +kernel
theorem d_R_leads_25 : decode b_R_leads 25 = .ok (.istore_n 3, 1) := by decide +kernel
theorem d_R_leads_26 : decode b_R_leads 26 = .ok (.iload_n 3, 1) := by decide +kernel
theorem d_R_leads_27 : decode b_R_leads 27 = .ok (.ifCond .ge 7, 3) := by decide +kernel
theorem d_R_leads_30 : decode b_R_leads 30 = .ok (.iconst 0, 1) := by decide +kernel
theorem d_R_leads_31 : decode b_R_leads 31 = .ok (.goto 9, 3) := by decide +kernel
theorem d_R_leads_34 : decode b_R_leads 34 = .ok (.aload_n 0, 1) := by decide +kernel
theorem d_R_leads_35 : decode b_R_leads 35 = .ok (.getfield 59, 3) := by decide +kernel
theorem d_R_leads_38 : decode b_R_leads 38 = .ok (.iload_n 3, 1) := by decide +kernel
theorem d_R_leads_39 : decode b_R_leads 39 = .ok (.iaload, 1) := by decide +kernel
theorem d_R_leads_40 : decode b_R_leads 40 = .ok (.ireturn, 1) := by decide +kernel
theorem d_R_make_0 : decode b_R_make 0 = .ok (.aload_n 0, 1) := by decide +kernel
theorem d_R_make_1 : decode b_R_make 1 = .ok (.iconst 0, 1) := by decide +kernel
theorem d_R_make_2 : decode b_R_make 2 = .ok (.putfield 83, 3) := by decide +kernel
theorem d_R_make_5 : decode b_R_make 5 = .ok (.aload_n 0, 1) := by decide +kernel
theorem d_R_make_6 : decode b_R_make 6 = .ok (.invokevirtual 105, 3) := by decide +kernel
theorem d_R_make_9 : decode b_R_make 9 = .ok (.aload_n 0, 1) := by decide +kernel
theorem d_R_make_10 : decode b_R_make 10 = .ok (.iconst (-1), 1) := by decide +kernel
theorem d_R_make_11 : decode b_R_make 11 = .ok (.invokevirtual 138, 3) := by decide +kernel
theorem d_R_make_14 : decode b_R_make 14 = .ok (.ifCond .ne 6, 3) := by decide +kernel
theorem d_R_make_17 : decode b_R_make 17 = .ok (.bipush (-2), 2) := by decide +kernel
theorem d_R_make_19 : decode b_R_make 19 = .ok (.ireturn, 1) := by decide +kernel
theorem d_R_make_20 : decode b_R_make 20 = .ok (.aload_n 0, 1) := by decide +kernel
theorem d_R_make_21 : decode b_R_make 21 = .ok (.iconst 0, 1) := by decide +kernel
theorem d_R_make_22 : decode b_R_make 22 = .ok (.iconst (-1), 1) := by decide +kernel
theorem d_R_make_23 : decode b_R_make 23 = .ok (.invokevirtual 141, 3) := by decide +kernel
theorem d_R_make_26 : decode b_R_make 26 = .ok (.ifCond .ne 5, 3) := by decide +kernel
theorem d_R_make_29 : decode b_R_make 29 = .ok (.iconst (-1), 1) := by decide +kernel
theorem d_R_make_30 : decode b_R_make 30 = .ok (.ireturn, 1) := by decide +kernel
theorem d_R_make_31 : decode b_R_make 31 = .ok (.aload_n 0, 1) := by decide +kernel
theorem d_R_make_32 : decode b_R_make 32 = .ok (.iconst 0, 1) := by decide +kernel
theorem d_R_make_33 : decode b_R_make 33 = .ok (.invokevirtual 144, 3) := by decide +kernel
theorem d_R_make_36 : decode b_R_make 36 = .ok (.aload_n 0, 1) := by decide +kernel
theorem d_R_make_37 : decode b_R_make 37 = .ok (.iconst 1, 1) := by decide +kernel
theorem d_R_make_38 : decode b_R_make 38 = .ok (.putfield 87, 3) := by decide +kernel
theorem d_R_make_41 : decode b_R_make 41 = .ok (.iconst 0, 1) := by decide +kernel
theorem d_R_make_42 : decode b_R_make 42 = .ok (.istore_n 1, 1) := by decide +kernel
theorem d_R_make_43 : decode b_R_make 43 = .ok (.iload_n 1, 1) := by decide +kernel
theorem d_R_make_44 : decode b_R_make 44 = .ok (.aload_n 0, 1) := by decide +kernel
theorem d_R_make_45 : decode b_R_make 45 = .ok (.getfield 35, 3) := by decide +kernel
theorem d_R_make_48 : decode b_R_make 48 = .ok (.iconst 0, 1) := by decide +kernel
theorem d_R_make_49 : decode b_R_make 49 = .ok (.iaload, 1) := by decide +kernel
theorem d_R_make_50 : decode b_R_make 50 = .ok (.if_icmp .ge 16, 3) := by decide +kernel
theorem d_R_make_53 : decode b_R_make 53 = .ok (.aload_n 0, 1) := by decide +kernel
theorem d_R_make_54 : decode b_R_make 54 = .ok (.getfield 59, 3) := by decide +kernel
theorem d_R_make_57 : decode b_R_make 57 = .ok (.iload_n 1, 1) := by decide +kernel
theorem d_R_make_58 : decode b_R_make 58 = .ok (.iconst 0, 1) := by decide +kernel
theorem d_R_make_59 : decode b_R_make 59 = .ok (.iastore, 1) := by decide +kernel
theorem d_R_make_60 : decode b_R_make 60 = .ok (.iinc 1 1, 3) := by decide +kernel
theorem d_R_make_63 : decode b_R_make 63 = .ok (.goto (-20), 3) := by decide +kernel
theorem d_R_make_66 : decode b_R_make 66 = .ok (.aload_n 0, 1) := by decide +kernel
theorem d_R_make_67 : decode b_R_make 67 = .ok (.iconst 0, 1) := by decide +kernel
theorem d_R_make_68 : decode b_R_make 68 = .ok (.invokevirtual 148, 3) := by decide +kernel
theorem d_R_make_71 : decode b_R_make 71 = .ok (.iconst 0, 1) := by decide +kernel
theorem d_R_make_72 : decode b_R_make 72 = .ok (.istore_n 1, 1) := by decide +kernel
theorem d_R_make_73 : decode b_R_make 73 = .ok (.iload_n 1, 1) := by decide +kernel
theorem d_R_make_74 : decode b_R_make 74 = .ok (.aload_n 0, 1) := by decide +kernel
theorem d_R_make_75 : decode b_R_make 75 = .ok (.getfield 91, 3) := by decide +kernel
theorem d_R_make_78 : decode b_R_make 78 = .ok (.if_icmp .ge 62, 3) := by decide +kernel
theorem d_R_make_81 : decode b_R_make 81 = .ok (.iconst 0, 1) := by decide +kernel
theorem d_R_make_82 : decode b_R_make 82 = .ok (.istore_n 2, 1) := by decide +kernel
theorem d_R_make_83 : decode b_R_make 83 = .ok (.iload_n 2, 1) := by decide +kernel
theorem d_R_make_84 : decode b_R_make 84 = .ok (.bipush 12, 2) := by decide +kernel
theorem d_R_make_86 : decode b_R_make 86 = .ok (.if_icmp .ge 48, 3) := by decide +kernel
theorem d_R_make_89 : decode b_R_make 89 = .ok (.aload_n 0, 1) := by decide +kernel
theorem d_R_make_90 : decode b_R_make 90 = .ok (.getfield 41, 3) := by decide +kernel
theorem d_R_make_93 : decode b_R_make 93 = .ok (.bipush 12, 2) := by decide +kernel
theorem d_R_make_95 : decode b_R_make 95 = .ok (.aload_n 0, 1) := by decide +kernel
theorem d_R_make_96 : decode b_R_make 96 = .ok (.getfield 56, 3) := by decide +kernel
theorem d_R_make_99 : decode b_R_make 99 = .ok (.iload_n 1, 1) := by decide +kernel
theorem d_R_make_100 : decode b_R_make 100 = .ok (.iaload, 1) := by decide +kernel
theorem d_R_make_101 : decode b_R_make 101 = .ok (.imul, 1) := by decide +kernel
theorem d_R_make_102 : decode b_R_make 102 = .ok (.iload_n 2, 1) := by decide +kernel
theorem d_R_make_103 : decode b_R_make 103 = .ok (.iadd, 1) := by decide +kernel
theorem d_R_make_104 : decode b_R_make 104 = .ok (.iaload, 1) := by decide +kernel
theorem d_R_make_105 : decode b_R_make 105 = .ok (.ifCond .lt 23, 3) := by decide +kernel
theorem d_R_make_108 : decode b_R_make 108 = .ok (.aload_n 0, 1) := by decide +kernel
theorem d_R_make_109 : decode b_R_make 109 = .ok (.aload_n 0, 1) := by decide +kernel
theorem d_R_make_110 : decode b_R_make 110 = .ok (.getfield 41, 3) := by decide +kernel
theorem d_R_make_113 : decode b_R_make 113 = .ok (.bipush 12, 2) := by decide +kernel
theorem d_R_make_115 : decode b_R_make 115 = .ok (.aload_n 0, 1) := by decide +kernel
theorem d_R_make_116 : decode b_R_make 116 = .ok (.getfield 56, 3) := by decide +kernel
theorem d_R_make_119 : decode b_R_make 119 = .ok (.iload_n 1, 1) := by decide +kernel
theorem d_R_make_120 : decode b_R_make 120 = .ok (.iaload, 1) := by decide +kernel
theorem d_R_make_121 : decode b_R_make 121 = .ok (.imul, 1) := by decide +kernel
theorem d_R_make_122 : decode b_R_make 122 = .ok (.iload_n 2, 1) := by decide +kernel
theorem d_R_make_123 : decode b_R_make 123 = .ok (.iadd, 1) := by decide +kernel
theorem d_R_make_124 : decode b_R_make 124 = .ok (.iaload, 1) := by decide +kernel
theorem d_R_make_125 : decode b_R_make 125 = .ok (.invokevirtual 148, 3) := by decide +kernel
theorem d_R_make_128 : decode b_R_make 128 = .ok (.iinc 2 1, 3) := by decide +kernel
theorem d_R_make_131 : decode b_R_make 131 = .ok (.goto (-48), 3) := by decide +kernel
theorem d_R_make_134 : decode b_R_make 134 = .ok (.iinc 1 1, 3) := by decide +kernel
theorem d_R_make_137 : decode b_R_make 137 = .ok (.goto (-64), 3) := by decide +kernel
theorem d_R_make_140 : decode b_R_make 140 = .ok (.aload_n 0, 1) := by decide +kernel
theorem d_R_make_141 : decode b_R_make 141 = .ok (.iconst 0, 1) := by decide +kernel
theorem d_R_make_142 : decode b_R_make 142 = .ok (.putfield 151, 3) := by decide +kernel
theorem d_R_make_145 : decode b_R_make 145 = .ok (.aload_n 0, 1) := by decide +kernel
theorem d_R_make_146 : decode b_R_make 146 = .ok (.aload_n 0, 1) := by decide +kernel
theorem d_R_make_147 : decode b_R_make 147 = .ok (.iconst 0, 1) := by decide +kernel
theorem d_R_make_148 : decode b_R_make 148 = .ok (.iconst 1, 1) := by decide +kernel
theorem d_R_make_149 : decode b_R_make 149 = .ok (.invokevirtual 154, 3) := by decide +kernel
theorem d_R_make_152 : decode b_R_make 152 = .ok (.putfield 158, 3) := by decide +kernel
theorem d_R_make_155 : decode b_R_make 155 = .ok (.aload_n 0, 1) := by decide +kernel
theorem d_R_make_156 : decode b_R_make 156 = .ok (.getfield 132, 3) := by decide +kernel
theorem d_R_make_159 : decode b_R_make 159 = .ok (.istore_n 1, 1) := by decide +kernel
theorem d_R_make_160 : decode b_R_make 160 = .ok (.aload_n 0, 1) := by decide +kernel
theorem d_R_make_161 : decode b_R_make 161 = .ok (.getfield 158, 3) := by decide +kernel
theorem d_R_make_164 : decode b_R_make 164 = .ok (.iconst 1, 1) := by decide +kernel
theorem d_R_make_165 : decode b_R_make 165 = .ok (.isub, 1) := by decide +kernel
theorem d_R_make_166 : decode b_R_make 166 = .ok (.istore_n 2, 1) := by decide +kernel
theorem d_R_make_167 : decode b_R_make 167 = .ok (.iload_n 2, 1) := by decide +kernel
theorem d_R_make_168 : decode b_R_make 168 = .ok (.ifCond .lt 28, 3) := by decide +kernel
theorem d_R_make_171 : decode b_R_make 171 = .ok (.aload_n 0, 1) := by decide +kernel
theorem d_R_make_172 : decode b_R_make 172 = .ok (.getfield 74, 3) := by decide +kernel
theorem d_R_make_175 : decode b_R_make 175 = .ok (.iload_n 2, 1) := by decide +kernel
theorem d_R_make_176 : decode b_R_make 176 = .ok (.aload_n 0, 1) := by decide +kernel
theorem d_R_make_177 : decode b_R_make 177 = .ok (.getfield 65, 3) := by decide +kernel
theorem d_R_make_180 : decode b_R_make 180 = .ok (.iload_n 1, 1) := by decide +kernel
theorem d_R_make_181 : decode b_R_make 181 = .ok (.iaload, 1) := by decide +kernel
theorem d_R_make_182 : decode b_R_make 182 = .ok (.iastore, 1) := by decide +kernel
theorem d_R_make_183 : decode b_R_make 183 = .ok (.aload_n 0, 1) := by decide +kernel
theorem d_R_make_184 : decode b_R_make 184 = .ok (.getfield 62, 3) := by decide +kernel
theorem d_R_make_187 : decode b_R_make 187 = .ok (.iload_n 1, 1) := by decide +kernel
theorem d_R_make_188 : decode b_R_make 188 = .ok (.iaload, 1) := by decide +kernel
theorem d_R_make_189 : decode b_R_make 189 = .ok (.istore_n 1, 1) := by decide +kernel
theorem d_R_make_190 : decode b_R_make 190 = .ok (.iinc 2 (-1), 3) := by decide +kernel
theorem d_R_make_193 : decode b_R_make 193 = .ok (.goto (-26), 3) := by decide +kernel
theorem d_R_make_196 : decode b_R_make 196 = .ok (.aload_n 0, 1) := by decide +kernel
theorem d_R_make_197 : decode b_R_make 197 = .ok (.getfield 91, 3) := by decide +kernel
theorem d_R_make_200 : decode b_R_make 200 = .ok (.ireturn, 1) := by decide +kernel
theorem d_R_many_0 : decode b_R_many 0 = .ok (.iload_n 1, 1) := by decide +kernel
theorem d_R_many_1 : decode b_R_many 1 = .ok (.iconst 2, 1) := by decide +kernel
theorem d_R_many_2 : decode b_R_many 2 = .ok (.invokestatic 94, 3) := by decide +kernel
theorem d_R_many_5 : decode b_R_many 5 = .ok (.istore_n 2, 1) := by decide +kernel
theorem d_R_many_6 : decode b_R_many 6 = .ok (.aload_n 0, 1) := by decide +kernel
theorem d_R_many_7 : decode b_R_many 7 = .ok (.iload_n 2, 1) := by decide +kernel
theorem d_R_many_8 : decode b_R_many 8 = .ok (.iload_n 2, 1) := by decide +kernel
theorem d_R_many_9 : decode b_R_many 9 = .ok (.ifCond .ne 14, 3) := by decide +kernel
theorem d_R_many_12 : decode b_R_many 12 = .ok (.aload_n 0, 1) := by decide +kernel
theorem d_R_many_13 : decode b_R_many 13 = .ok (.getfield 87, 3) := by decide +kernel
theorem d_R_many_16 : decode b_R_many 16 = .ok (.ifCond .ne 7, 3) := by decide +kernel
theorem d_R_many_19 : decode b_R_many 19 = .ok (.iconst 1, 1) := by decide +kernel
theorem d_R_many_20 : decode b_R_many 20 = .ok (.goto 4, 3) := by decide +kernel
theorem d_R_many_23 : decode b_R_many 23 = .ok (.iconst 0, 1) := by decide +kernel
theorem d_R_many_24 : decode b_R_many 24 = .ok (.invokevirtual 101, 3) := by decide +kernel
theorem d_R_many_27 : decode b_R_many 27 = .ok (.ifCond .eq 5, 3) := by decide +kernel
theorem d_R_many_30 : decode b_R_many 30 = .ok (.iconst 0, 1) := by decide +kernel
theorem d_R_many_31 : decode b_R_many 31 = .ok (.ireturn, 1) := by decide +kernel
theorem d_R_many_32 : decode b_R_many 32 = .ok (.iconst 0, 1) := by decide +kernel
theorem d_R_many_33 : decode b_R_many 33 = .ok (.istore_n 3, 1) := by decide +kernel
theorem d_R_many_34 : decode b_R_many 34 = .ok (.iconst 0, 1) := by decide +kernel
theorem d_R_many_35 : decode b_R_many 35 = .ok (.istore 4, 2) := by decide +kernel
theorem d_R_many_37 : decode b_R_many 37 = .ok (.iload 4, 2) := by decide +kernel
theorem d_R_many_39 : decode b_R_many 39 = .ok (.aload_n 0, 1) := by decide +kernel
theorem d_R_many_40 : decode b_R_many 40 = .ok (.getfield 35, 3) := by decide +kernel
theorem d_R_many_43 : decode b_R_many 43 = .ok (.iconst 0, 1) := by decide +kernel
theorem d_R_many_44 : decode b_R_many 44 = .ok (.iaload, 1) := by decide +kernel
theorem d_R_many_45 : decode b_R_many 45 = .ok (.if_icmp .ge 31, 3) := by decide +kernel
theorem d_R_many_48 : decode b_R_many 48 = .ok (.iload_n 1, 1) := by decide +kernel
theorem d_R_many_49 : decode b_R_many 49 = .ok (.ifCond .eq 13, 3) := by decide +kernel
theorem d_R_many_52 : decode b_R_many 52 = .ok (.aload_n 0, 1) := by decide +kernel
theorem d_R_many_53 : decode b_R_many 53 = .ok (.getfield 50, 3) := by decide +kernel
theorem d_R_many_56 : decode b_R_many 56 = .ok (.iload 4, 2) := by decide +kernel
theorem d_R_many_58 : decode b_R_many 58 = .ok (.baload, 1) := by decide +kernel
theorem d_R_many_59 : decode b_R_many 59 = .ok (.ifCond .ne 9, 3) := by decide +kernel
theorem d_R_many_62 : decode b_R_many 62 = .ok (.iload_n 3, 1) := by decide +kernel
theorem d_R_many_63 : decode b_R_many 63 = .ok (.iconst 1, 1) := by decide +kernel
theorem d_R_many_64 : decode b_R_many 64 = .ok (.iadd, 1) := by decide +kernel
theorem d_R_many_65 : decode b_R_many 65 = .ok (.goto 4, 3) := by decide +kernel
theorem d_R_many_68 : decode b_R_many 68 = .ok (.iload_n 3, 1) := by decide +kernel
theorem d_R_many_69 : decode b_R_many 69 = .ok (.istore_n 3, 1) := by decide +kernel
theorem d_R_many_70 : decode b_R_many 70 = .ok (.iinc 4 1, 3) := by decide +kernel
theorem d_R_many_73 : decode b_R_many 73 = .ok (.goto (-36), 3) := by decide +kernel
theorem d_R_many_76 : decode b_R_many 76 = .ok (.iload_n 3, 1) := by decide +kernel
theorem d_R_many_77 : decode b_R_many 77 = .ok (.ireturn, 1) := by decide +kernel
theorem d_R_out_0 : decode b_R_out 0 = .ok (.iload_n 0, 1) := by decide +kernel
theorem d_R_out_1 : decode b_R_out 1 = .ok (.ifCond .lt 8, 3) := by decide +kernel
theorem d_R_out_4 : decode b_R_out 4 = .ok (.iload_n 0, 1) := by decide +kernel
theorem d_R_out_5 : decode b_R_out 5 = .ok (.iload_n 1, 1) := by decide +kernel
theorem d_R_out_6 : decode b_R_out 6 = .ok (.if_icmp .lt 7, 3) := by decide +kernel
theorem d_R_out_9 : decode b_R_out 9 = .ok (.iconst 1, 1) := by decide +kernel
theorem d_R_out_10 : decode b_R_out 10 = .ok (.goto 4, 3) := by decide +kernel
theorem d_R_out_13 : decode b_R_out 13 = .ok (.iconst 0, 1) := by decide +kernel
theorem d_R_out_14 : decode b_R_out 14 = .ok (.ireturn, 1) := by decide +kernel
theorem d_R_part_0 : decode b_R_part 0 = .ok (.aload_n 0, 1) := by decide +kernel
theorem d_R_part_1 : decode b_R_part 1 = .ok (.aload_n 0, 1) := by decide +kernel
theorem d_R_part_2 : decode b_R_part 2 = .ok (.getfield 91, 3) := by decide +kernel
theorem d_R_part_5 : decode b_R_part 5 = .ok (.ifCond .ne 7, 3) := by decide +kernel
theorem d_R_part_8 : decode b_R_part 8 = .ok (.iconst 1, 1) := by decide +kernel
theorem d_R_part_9 : decode b_R_part 9 = .ok (.goto 4, 3) := by decide +kernel
theorem d_R_part_12 : decode b_R_part 12 = .ok (.iconst 0, 1) := by decide +kernel
theorem d_R_part_13 : decode b_R_part 13 = .ok (.aload_n 0, 1) := by decide +kernel
theorem d_R_part_14 : decode b_R_part 14 = .ok (.getfield 91, 3) := by decide +kernel
theorem d_R_part_17 : decode b_R_part 17 = .ok (.ifCond .le 31, 3) := by decide +kernel
theorem d_R_part_20 : decode b_R_part 20 = .ok (.iload_n 1, 1) := by decide +kernel
theorem d_R_part_21 : decode b_R_part 21 = .ok (.iconst 1, 1) := by decide +kernel
theorem d_R_part_22 : decode b_R_part 22 = .ok (.if_icmp .lt 22, 3) := by decide +kernel
theorem d_R_part_25 : decode b_R_part 25 = .ok (.iload_n 1, 1) := by decide +kernel
theorem d_R_part_26 : decode b_R_part 26 = .ok (.aload_n 0, 1) := by decide +kernel
theorem d_R_part_27 : decode b_R_part 27 = .ok (.getfield 91, 3) := by decide +kernel
theorem d_R_part_30 : decode b_R_part 30 = .ok (.if_icmp .gt 14, 3) := by decide +kernel
theorem d_R_part_33 : decode b_R_part 33 = .ok (.iload_n 2, 1) := by decide +kernel
theorem d_R_part_34 : decode b_R_part 34 = .ok (.aload_n 0, 1) := by decide +kernel
theorem d_R_part_35 : decode b_R_part 35 = .ok (.getfield 98, 3) := by decide +kernel
theorem d_R_part_38 : decode b_R_part 38 = .ok (.invokestatic 94, 3) := by decide +kernel
theorem d_R_part_41 : decode b_R_part 41 = .ok (.ifCond .eq 7, 3) := by decide +kernel
theorem d_R_part_44 : decode b_R_part 44 = .ok (.iconst 1, 1) := by decide +kernel
theorem d_R_part_45 : decode b_R_part 45 = .ok (.goto 4, 3) := by decide +kernel
theorem d_R_part_48 : decode b_R_part 48 = .ok (.iconst 0, 1) := by decide +kernel
theorem d_R_part_49 : decode b_R_part 49 = .ok (.invokevirtual 101, 3) := by decide +kernel
theorem d_R_part_52 : decode b_R_part 52 = .ok (.ifCond .eq 5, 3) := by decide +kernel
theorem d_R_part_55 : decode b_R_part 55 = .ok (.iconst 0, 1) := by decide +kernel
theorem d_R_part_56 : decode b_R_part 56 = .ok (.ireturn, 1) := by decide +kernel
theorem d_R_part_57 : decode b_R_part 57 = .ok (.aload_n 0, 1) := by decide +kernel
theorem d_R_part_58 : decode b_R_part 58 = .ok (.getfield 38, 3) := by decide +kernel
theorem d_R_part_61 : decode b_R_part 61 = .ok (.aload_n 0, 1) := by decide +kernel
theorem d_R_part_62 : decode b_R_part 62 = .ok (.getfield 56, 3) := by decide +kernel
theorem d_R_part_65 : decode b_R_part 65 = .ok (.iload_n 1, 1) := by decide +kernel
theorem d_R_part_66 : decode b_R_part 66 = .ok (.iconst 1, 1) := by decide +kernel
theorem d_R_part_67 : decode b_R_part 67 = .ok (.isub, 1) := by decide +kernel
theorem d_R_part_68 : decode b_R_part 68 = .ok (.iaload, 1) := by decide +kernel
theorem d_R_part_69 : decode b_R_part 69 = .ok (.iaload, 1) := by decide +kernel
theorem d_R_part_70 : decode b_R_part 70 = .ok (.iload_n 2, 1) := by decide +kernel
theorem d_R_part_71 : decode b_R_part 71 = .ok (.invokestatic 114, 3) := by decide +kernel
theorem d_R_part_74 : decode b_R_part 74 = .ok (.ireturn, 1) := by decide +kernel
theorem d_R_placeOf_0 : decode b_R_placeOf 0 = .ok (.iconst 0, 1) := by decide +kernel
theorem d_R_placeOf_1 : decode b_R_placeOf 1 = .ok (.istore_n 3, 1) := by decide +kernel
theorem d_R_placeOf_2 : decode b_R_placeOf 2 = .ok (.iload_n 3, 1) := by decide +kernel
theorem d_R_placeOf_3 : decode b_R_placeOf 3 = .ok (.aload_n 0, 1) := by decide +kernel
theorem d_R_placeOf_4 : decode b_R_placeOf 4 = .ok (.getfield 35, 3) := by decide +kernel
theorem d_R_placeOf_7 : decode b_R_placeOf 7 = .ok (.iload_n 1, 1) := by decide +kernel
theorem d_R_placeOf_8 : decode b_R_placeOf 8 = .ok (.iaload, 1) := by decide +kernel
theorem d_R_placeOf_9 : decode b_R_placeOf 9 = .ok (.if_icmp .ge 27, 3) := by decide +kernel
theorem d_R_placeOf_12 : decode b_R_placeOf 12 = .ok (.aload_n 0, 1) := by decide +kernel
theorem d_R_placeOf_13 : decode b_R_placeOf 13 = .ok (.getfield 38, 3) := by decide +kernel
theorem d_R_placeOf_16 : decode b_R_placeOf 16 = .ok (.sipush 200, 3) := by decide +kernel
theorem d_R_placeOf_19 : decode b_R_placeOf 19 = .ok (.iload_n 1, 1) := by decide +kernel
theorem d_R_placeOf_20 : decode b_R_placeOf 20 = .ok (.imul, 1) := by decide +kernel
theorem d_R_placeOf_21 : decode b_R_placeOf 21 = .ok (.iload_n 3, 1) := by decide +kernel
theorem d_R_placeOf_22 : decode b_R_placeOf 22 = .ok (.iadd, 1) := by decide +kernel
theorem d_R_placeOf_23 : decode b_R_placeOf 23 = .ok (.iaload, 1) := by decide +kernel
theorem d_R_placeOf_24 : decode b_R_placeOf 24 = .ok (.iload_n 2, 1) := by decide +kernel
theorem d_R_placeOf_25 : decode b_R_placeOf 25 = .ok (.if_icmp .ne 5, 3) := by decide +kernel
theorem d_R_placeOf_28 : decode b_R_placeOf 28 = .ok (.iload_n 3, 1) := by decide +kernel
theorem d_R_placeOf_29 : decode b_R_placeOf 29 = .ok (.ireturn, 1) := by decide +kernel
theorem d_R_placeOf_30 : decode b_R_placeOf 30 = .ok (.iinc 3 1, 3) := by decide +kernel
theorem d_R_placeOf_33 : decode b_R_placeOf 33 = .ok (.goto (-31), 3) := by decide +kernel
theorem d_R_placeOf_36 : decode b_R_placeOf 36 = .ok (.aload_n 0, 1) := by decide +kernel
theorem d_R_placeOf_37 : decode b_R_placeOf 37 = .ok (.getfield 35, 3) := by decide +kernel
theorem d_R_placeOf_40 : decode b_R_placeOf 40 = .ok (.iload_n 1, 1) := by decide +kernel
theorem d_R_placeOf_41 : decode b_R_placeOf 41 = .ok (.iaload, 1) := by decide +kernel
theorem d_R_placeOf_42 : decode b_R_placeOf 42 = .ok (.sipush 200, 3) := by decide +kernel
theorem d_R_placeOf_45 : decode b_R_placeOf 45 = .ok (.if_icmp .ne 5, 3) := by decide +kernel
theorem d_R_placeOf_48 : decode b_R_placeOf 48 = .ok (.iconst (-1), 1) := by decide +kernel
theorem d_R_placeOf_49 : decode b_R_placeOf 49 = .ok (.ireturn, 1) := by decide +kernel
theorem d_R_placeOf_50 : decode b_R_placeOf 50 = .ok (.aload_n 0, 1) := by decide +kernel
theorem d_R_placeOf_51 : decode b_R_placeOf 51 = .ok (.getfield 38, 3) := by decide +kernel
theorem d_R_placeOf_54 : decode b_R_placeOf 54 = .ok (.sipush 200, 3) := by decide +kernel
theorem d_R_placeOf_57 : decode b_R_placeOf 57 = .ok (.iload_n 1, 1) := by decide +kernel
theorem d_R_placeOf_58 : decode b_R_placeOf 58 = .ok (.imul, 1) := by decide +kernel
theorem d_R_placeOf_59 : decode b_R_placeOf 59 = .ok (.aload_n 0, 1) := by decide +kernel
theorem d_R_placeOf_60 : decode b_R_placeOf 60 = .ok (.getfield 35, 3) := by decide +kernel
theorem d_R_placeOf_63 : decode b_R_placeOf 63 = .ok (.iload_n 1, 1) := by decide +kernel
theorem d_R_placeOf_64 : decode b_R_placeOf 64 = .ok (.iaload, 1) := by decide +kernel
theorem d_R_placeOf_65 : decode b_R_placeOf 65 = .ok (.iadd, 1) := by decide +kernel
theorem d_R_placeOf_66 : decode b_R_placeOf 66 = .ok (.iload_n 2, 1) := by decide +kernel
theorem d_R_placeOf_67 : decode b_R_placeOf 67 = .ok (.iastore, 1) := by decide +kernel
theorem d_R_placeOf_68 : decode b_R_placeOf 68 = .ok (.aload_n 0, 1) := by decide +kernel
theorem d_R_placeOf_69 : decode b_R_placeOf 69 = .ok (.getfield 35, 3) := by decide +kernel
theorem d_R_placeOf_72 : decode b_R_placeOf 72 = .ok (.iload_n 1, 1) := by decide +kernel
theorem d_R_placeOf_73 : decode b_R_placeOf 73 = .ok (.dup2, 1) := by decide +kernel
theorem d_R_placeOf_74 : decode b_R_placeOf 74 = .ok (.iaload, 1) := by decide +kernel
theorem d_R_placeOf_75 : decode b_R_placeOf 75 = .ok (.iconst 1, 1) := by decide +kernel
theorem d_R_placeOf_76 : decode b_R_placeOf 76 = .ok (.iadd, 1) := by decide +kernel
theorem d_R_placeOf_77 : decode b_R_placeOf 77 = .ok (.iastore, 1) := by decide +kernel
theorem d_R_placeOf_78 : decode b_R_placeOf 78 = .ok (.aload_n 0, 1) := by decide +kernel
theorem d_R_placeOf_79 : decode b_R_placeOf 79 = .ok (.getfield 35, 3) := by decide +kernel
theorem d_R_placeOf_82 : decode b_R_placeOf 82 = .ok (.iload_n 1, 1) := by decide +kernel
theorem d_R_placeOf_83 : decode b_R_placeOf 83 = .ok (.iaload, 1) := by decide +kernel
theorem d_R_placeOf_84 : decode b_R_placeOf 84 = .ok (.iconst 1, 1) := by decide +kernel
theorem d_R_placeOf_85 : decode b_R_placeOf 85 = .ok (.isub, 1) := by decide +kernel
theorem d_R_placeOf_86 : decode b_R_placeOf 86 = .ok (.ireturn, 1) := by decide +kernel
theorem d_R_refuses_0 : decode b_R_refuses 0 = .ok (.aload_n 0, 1) := by decide +kernel
theorem d_R_refuses_1 : decode b_R_refuses 1 = .ok (.aload_n 0, 1) := by decide +kernel
theorem d_R_refuses_2 : decode b_R_refuses 2 = .ok (.getfield 91, 3) := by decide +kernel
theorem d_R_refuses_5 : decode b_R_refuses 5 = .ok (.ifCond .ne 7, 3) := by decide +kernel
theorem d_R_refuses_8 : decode b_R_refuses 8 = .ok (.iconst 1, 1) := by decide +kernel
theorem d_R_refuses_9 : decode b_R_refuses 9 = .ok (.goto 4, 3) := by decide +kernel
theorem d_R_refuses_12 : decode b_R_refuses 12 = .ok (.iconst 0, 1) := by decide +kernel
theorem d_R_refuses_13 : decode b_R_refuses 13 = .ok (.aload_n 0, 1) := by decide +kernel
theorem d_R_refuses_14 : decode b_R_refuses 14 = .ok (.getfield 91, 3) := by decide +kernel
theorem d_R_refuses_17 : decode b_R_refuses 17 = .ok (.ifCond .le 29, 3) := by decide +kernel
theorem d_R_refuses_20 : decode b_R_refuses 20 = .ok (.iload_n 2, 1) := by decide +kernel
theorem d_R_refuses_21 : decode b_R_refuses 21 = .ok (.bipush 12, 2) := by decide +kernel
theorem d_R_refuses_23 : decode b_R_refuses 23 = .ok (.invokestatic 94, 3) := by decide +kernel
theorem d_R_refuses_26 : decode b_R_refuses 26 = .ok (.ifCond .ne 16, 3) := by decide +kernel
theorem d_R_refuses_29 : decode b_R_refuses 29 = .ok (.iload_n 1, 1) := by decide +kernel
theorem d_R_refuses_30 : decode b_R_refuses 30 = .ok (.iconst 1, 1) := by decide +kernel
theorem d_R_refuses_31 : decode b_R_refuses 31 = .ok (.if_icmp .lt 11, 3) := by decide +kernel
theorem d_R_refuses_34 : decode b_R_refuses 34 = .ok (.iload_n 1, 1) := by decide +kernel
theorem d_R_refuses_35 : decode b_R_refuses 35 = .ok (.aload_n 0, 1) := by decide +kernel
theorem d_R_refuses_36 : decode b_R_refuses 36 = .ok (.getfield 91, 3) := by decide +kernel
theorem d_R_refuses_39 : decode b_R_refuses 39 = .ok (.if_icmp .le 7, 3) := by decide +kernel
theorem d_R_refuses_42 : decode b_R_refuses 42 = .ok (.iconst 1, 1) := by decide +kernel
theorem d_R_refuses_43 : decode b_R_refuses 43 = .ok (.goto 4, 3) := by decide +kernel
theorem d_R_refuses_46 : decode b_R_refuses 46 = .ok (.iconst 0, 1) := by decide +kernel
theorem d_R_refuses_47 : decode b_R_refuses 47 = .ok (.invokevirtual 101, 3) := by decide +kernel
theorem d_R_refuses_50 : decode b_R_refuses 50 = .ok (.ireturn, 1) := by decide +kernel
theorem d_R_reset_0 : decode b_R_reset 0 = .ok (.aload_n 0, 1) := by decide +kernel
theorem d_R_reset_1 : decode b_R_reset 1 = .ok (.aload_n 0, 1) := by decide +kernel
theorem d_R_reset_2 : decode b_R_reset 2 = .ok (.getfield 91, 3) := by decide +kernel
theorem d_R_reset_5 : decode b_R_reset 5 = .ok (.ifCond .ne 7, 3) := by decide +kernel
theorem d_R_reset_8 : decode b_R_reset 8 = .ok (.iconst 1, 1) := by decide +kernel
theorem d_R_reset_9 : decode b_R_reset 9 = .ok (.goto 4, 3) := by decide +kernel
theorem d_R_reset_12 : decode b_R_reset 12 = .ok (.iconst 0, 1) := by decide +kernel
theorem d_R_reset_13 : decode b_R_reset 13 = .ok (.iconst 0, 1) := by decide +kernel
theorem d_R_reset_14 : decode b_R_reset 14 = .ok (.invokevirtual 101, 3) := by decide +kernel
theorem d_R_reset_17 : decode b_R_reset 17 = .ok (.ifCond .eq 4, 3) := by decide +kernel
theorem d_R_reset_20 : decode b_R_reset 20 = .ok (.return_, 1) := by decide +kernel
theorem d_R_reset_21 : decode b_R_reset 21 = .ok (.aload_n 0, 1) := by decide +kernel
theorem d_R_reset_22 : decode b_R_reset 22 = .ok (.iconst 0, 1) := by decide +kernel
theorem d_R_reset_23 : decode b_R_reset 23 = .ok (.putfield 151, 3) := by decide +kernel
theorem d_R_reset_26 : decode b_R_reset 26 = .ok (.return_, 1) := by decide +kernel
theorem d_R_says_0 : decode b_R_says 0 = .ok (.aload_n 0, 1) := by decide +kernel
theorem d_R_says_1 : decode b_R_says 1 = .ok (.iload_n 1, 1) := by decide +kernel
theorem d_R_says_2 : decode b_R_says 2 = .ok (.iload_n 2, 1) := by decide +kernel
theorem d_R_says_3 : decode b_R_says 3 = .ok (.invokevirtual 161, 3) := by decide +kernel
theorem d_R_says_6 : decode b_R_says 6 = .ok (.ifCond .eq 5, 3) := by decide +kernel
theorem d_R_says_9 : decode b_R_says 9 = .ok (.iconst 0, 1) := by decide +kernel
theorem d_R_says_10 : decode b_R_says 10 = .ok (.ireturn, 1) := by decide +kernel
theorem d_R_says_11 : decode b_R_says 11 = .ok (.aload_n 0, 1) := by decide +kernel
theorem d_R_says_12 : decode b_R_says 12 = .ok (.getfield 56, 3) := by decide +kernel
theorem d_R_says_15 : decode b_R_says 15 = .ok (.iload_n 1, 1) := by decide +kernel
theorem d_R_says_16 : decode b_R_says 16 = .ok (.iconst 1, 1) := by decide +kernel
theorem d_R_says_17 : decode b_R_says 17 = .ok (.isub, 1) := by decide +kernel
theorem d_R_says_18 : decode b_R_says 18 = .ok (.iaload, 1) := by decide +kernel
theorem d_R_says_19 : decode b_R_says 19 = .ok (.istore_n 3, 1) := by decide +kernel
theorem d_R_says_20 : decode b_R_says 20 = .ok (.aload_n 0, 1) := by decide +kernel
theorem d_R_says_21 : decode b_R_says 21 = .ok (.getfield 44, 3) := by decide +kernel
theorem d_R_says_24 : decode b_R_says 24 = .ok (.bipush 12, 2) := by decide +kernel
theorem d_R_says_26 : decode b_R_says 26 = .ok (.iload_n 3, 1) := by decide +kernel
theorem d_R_says_27 : decode b_R_says 27 = .ok (.imul, 1) := by decide +kernel
theorem d_R_says_28 : decode b_R_says 28 = .ok (.iload_n 2, 1) := by decide +kernel
theorem d_R_says_29 : decode b_R_says 29 = .ok (.iadd, 1) := by decide +kernel
theorem d_R_says_30 : decode b_R_says 30 = .ok (.baload, 1) := by decide +kernel
theorem d_R_says_31 : decode b_R_says 31 = .ok (.ifCond .ne 7, 3) := by decide +kernel
theorem d_R_says_34 : decode b_R_says 34 = .ok (.iconst 2, 1) := by decide +kernel
theorem d_R_says_35 : decode b_R_says 35 = .ok (.goto 18, 3) := by decide +kernel
theorem d_R_says_38 : decode b_R_says 38 = .ok (.aload_n 0, 1) := by decide +kernel
theorem d_R_says_39 : decode b_R_says 39 = .ok (.iconst 0, 1) := by decide +kernel
theorem d_R_says_40 : decode b_R_says 40 = .ok (.iload_n 3, 1) := by decide +kernel
theorem d_R_says_41 : decode b_R_says 41 = .ok (.iload_n 2, 1) := by decide +kernel
theorem d_R_says_42 : decode b_R_says 42 = .ok (.invokevirtual 135, 3) := by decide +kernel
theorem d_R_says_45 : decode b_R_says 45 = .ok (.ifCond .lt 7, 3) := by decide +kernel
theorem d_R_says_48 : decode b_R_says 48 = .ok (.iconst 0, 1) := by decide +kernel
theorem d_R_says_49 : decode b_R_says 49 = .ok (.goto 4, 3) := by decide +kernel
theorem d_R_says_52 : decode b_R_says 52 = .ok (.iconst 1, 1) := by decide +kernel
theorem d_R_says_53 : decode b_R_says 53 = .ok (.ireturn, 1) := by decide +kernel
theorem d_R_search_0 : decode b_R_search 0 = .ok (.iconst 0, 1) := by decide +kernel
theorem d_R_search_1 : decode b_R_search 1 = .ok (.istore_n 3, 1) := by decide +kernel
theorem d_R_search_2 : decode b_R_search 2 = .ok (.iload_n 3, 1) := by decide +kernel
theorem d_R_search_3 : decode b_R_search 3 = .ok (.aload_n 0, 1) := by decide +kernel
theorem d_R_search_4 : decode b_R_search 4 = .ok (.getfield 35, 3) := by decide +kernel
theorem d_R_search_7 : decode b_R_search 7 = .ok (.iconst 0, 1) := by decide +kernel
theorem d_R_search_8 : decode b_R_search 8 = .ok (.iaload, 1) := by decide +kernel
theorem d_R_search_9 : decode b_R_search 9 = .ok (.if_icmp .ge 16, 3) := by decide +kernel
theorem d_R_search_12 : decode b_R_search 12 = .ok (.aload_n 0, 1) := by decide +kernel
theorem d_R_search_13 : decode b_R_search 13 = .ok (.getfield 68, 3) := by decide +kernel
theorem d_R_search_16 : decode b_R_search 16 = .ok (.iload_n 3, 1) := by decide +kernel
theorem d_R_search_17 : decode b_R_search 17 = .ok (.iconst (-1), 1) := by decide +kernel
theorem d_R_search_18 : decode b_R_search 18 = .ok (.iastore, 1) := by decide +kernel
theorem d_R_search_19 : decode b_R_search 19 = .ok (.iinc 3 1, 3) := by decide +kernel
theorem d_R_search_22 : decode b_R_search 22 = .ok (.goto (-20), 3) := by decide +kernel
theorem d_R_search_25 : decode b_R_search 25 = .ok (.aload_n 0, 1) := by decide +kernel
theorem d_R_search_26 : decode b_R_search 26 = .ok (.getfield 68, 3) := by decide +kernel
theorem d_R_search_29 : decode b_R_search 29 = .ok (.iload_n 1, 1) := by decide +kernel
theorem d_R_search_30 : decode b_R_search 30 = .ok (.iconst 0, 1) := by decide +kernel
theorem d_R_search_31 : decode b_R_search 31 = .ok (.iastore, 1) := by decide +kernel
theorem d_R_search_32 : decode b_R_search 32 = .ok (.aload_n 0, 1) := by decide +kernel
theorem d_R_search_33 : decode b_R_search 33 = .ok (.getfield 71, 3) := by decide +kernel
theorem d_R_search_36 : decode b_R_search 36 = .ok (.iconst 0, 1) := by decide +kernel
theorem d_R_search_37 : decode b_R_search 37 = .ok (.iload_n 1, 1) := by decide +kernel
theorem d_R_search_38 : decode b_R_search 38 = .ok (.iastore, 1) := by decide +kernel
theorem d_R_search_39 : decode b_R_search 39 = .ok (.iconst 1, 1) := by decide +kernel
theorem d_R_search_40 : decode b_R_search 40 = .ok (.istore_n 3, 1) := by decide +kernel
theorem d_R_search_41 : decode b_R_search 41 = .ok (.iconst 0, 1) := by decide +kernel
theorem d_R_search_42 : decode b_R_search 42 = .ok (.istore 4, 2) := by decide +kernel
theorem d_R_search_44 : decode b_R_search 44 = .ok (.iload 4, 2) := by decide +kernel
theorem d_R_search_46 : decode b_R_search 46 = .ok (.iload_n 3, 1) := by decide +kernel
theorem d_R_search_47 : decode b_R_search 47 = .ok (.if_icmp .ge 169, 3) := by decide +kernel
theorem d_R_search_50 : decode b_R_search 50 = .ok (.aload_n 0, 1) := by decide +kernel
theorem d_R_search_51 : decode b_R_search 51 = .ok (.getfield 71, 3) := by decide +kernel
theorem d_R_search_54 : decode b_R_search 54 = .ok (.iload 4, 2) := by decide +kernel
theorem d_R_search_56 : decode b_R_search 56 = .ok (.iaload, 1) := by decide +kernel
theorem d_R_search_57 : decode b_R_search 57 = .ok (.istore 5, 2) := by decide +kernel
theorem d_R_search_59 : decode b_R_search 59 = .ok (.iload_n 2, 1) := by decide +kernel
theorem d_R_search_60 : decode b_R_search 60 = .ok (.ifCond .eq 16, 3) := by decide +kernel
theorem d_R_search_63 : decode b_R_search 63 = .ok (.aload_n 0, 1) := by decide +kernel
theorem d_R_search_64 : decode b_R_search 64 = .ok (.getfield 50, 3) := by decide +kernel
theorem d_R_search_67 : decode b_R_search 67 = .ok (.iload 5, 2) := by decide +kernel
theorem d_R_search_69 : decode b_R_search 69 = .ok (.baload, 1) := by decide +kernel
theorem d_R_search_70 : decode b_R_search 70 = .ok (.ifCond .eq 30, 3) := by decide +kernel
theorem d_R_search_73 : decode b_R_search 73 = .ok (.goto 13, 3) := by decide +kernel
theorem d_R_search_76 : decode b_R_search 76 = .ok (.aload_n 0, 1) := by decide +kernel
theorem d_R_search_77 : decode b_R_search 77 = .ok (.getfield 47, 3) := by decide +kernel
theorem d_R_search_80 : decode b_R_search 80 = .ok (.iload 5, 2) := by decide +kernel
theorem d_R_search_82 : decode b_R_search 82 = .ok (.baload, 1) := by decide +kernel
theorem d_R_search_83 : decode b_R_search 83 = .ok (.ifCond .eq 17, 3) := by decide +kernel
theorem d_R_search_86 : decode b_R_search 86 = .ok (.aload_n 0, 1) := by decide +kernel
theorem d_R_search_87 : decode b_R_search 87 = .ok (.iload 5, 2) := by decide +kernel
theorem d_R_search_89 : decode b_R_search 89 = .ok (.putfield 132, 3) := by decide +kernel
theorem d_R_search_92 : decode b_R_search 92 = .ok (.aload_n 0, 1) := by decide +kernel
theorem d_R_search_93 : decode b_R_search 93 = .ok (.getfield 68, 3) := by decide +kernel
theorem d_R_search_96 : decode b_R_search 96 = .ok (.iload 5, 2) := by decide +kernel
theorem d_R_search_98 : decode b_R_search 98 = .ok (.iaload, 1) := by decide +kernel
theorem d_R_search_99 : decode b_R_search 99 = .ok (.ireturn, 1) := by decide +kernel
theorem d_R_search_100 : decode b_R_search 100 = .ok (.iconst 0, 1) := by decide +kernel
theorem d_R_search_101 : decode b_R_search 101 = .ok (.istore 6, 2) := by decide +kernel
theorem d_R_search_103 : decode b_R_search 103 = .ok (.iload 6, 2) := by decide +kernel
theorem d_R_search_105 : decode b_R_search 105 = .ok (.bipush 12, 2) := by decide +kernel
theorem d_R_search_107 : decode b_R_search 107 = .ok (.if_icmp .ge 103, 3) := by decide +kernel
theorem d_R_search_110 : decode b_R_search 110 = .ok (.iload_n 2, 1) := by decide +kernel
theorem d_R_search_111 : decode b_R_search 111 = .ok (.ifCond .eq 19, 3) := by decide +kernel
theorem d_R_search_114 : decode b_R_search 114 = .ok (.aload_n 0, 1) := by decide +kernel
theorem d_R_search_115 : decode b_R_search 115 = .ok (.getfield 41, 3) := by decide +kernel
theorem d_R_search_118 : decode b_R_search 118 = .ok (.bipush 12, 2) := by decide +kernel
theorem d_R_search_120 : decode b_R_search 120 = .ok (.iload 5, 2) := by decide +kernel
theorem d_R_search_122 : decode b_R_search 122 = .ok (.imul, 1) := by decide +kernel
theorem d_R_search_123 : decode b_R_search 123 = .ok (.iload 6, 2) := by decide +kernel
theorem d_R_search_125 : decode b_R_search 125 = .ok (.iadd, 1) := by decide +kernel
theorem d_R_search_126 : decode b_R_search 126 = .ok (.iaload, 1) := by decide +kernel
theorem d_R_search_127 : decode b_R_search 127 = .ok (.goto 12, 3) := by decide +kernel
theorem d_R_search_130 : decode b_R_search 130 = .ok (.aload_n 0, 1) := by decide +kernel
theorem d_R_search_131 : decode b_R_search 131 = .ok (.iconst 0, 1) := by decide +kernel
theorem d_R_search_132 : decode b_R_search 132 = .ok (.iload 5, 2) := by decide +kernel
theorem d_R_search_134 : decode b_R_search 134 = .ok (.iload 6, 2) := by decide +kernel
theorem d_R_search_136 : decode b_R_search 136 = .ok (.invokevirtual 135, 3) := by decide +kernel
theorem d_R_search_139 : decode b_R_search 139 = .ok (.istore 7, 2) := by decide +kernel
theorem d_R_search_141 : decode b_R_search 141 = .ok (.iload 7, 2) := by decide +kernel
theorem d_R_search_143 : decode b_R_search 143 = .ok (.ifCond .lt 61, 3) := by decide +kernel
theorem d_R_search_146 : decode b_R_search 146 = .ok (.aload_n 0, 1) := by decide +kernel
theorem d_R_search_147 : decode b_R_search 147 = .ok (.getfield 68, 3) := by decide +kernel
theorem d_R_search_150 : decode b_R_search 150 = .ok (.iload 7, 2) := by decide +kernel
theorem d_R_search_152 : decode b_R_search 152 = .ok (.iaload, 1) := by decide +kernel
theorem d_R_search_153 : decode b_R_search 153 = .ok (.ifCond .lt 6, 3) := by decide +kernel
theorem d_R_search_156 : decode b_R_search 156 = .ok (.goto 48, 3) := by decide +kernel
theorem d_R_search_159 : decode b_R_search 159 = .ok (.aload_n 0, 1) := by decide +kernel
theorem d_R_search_160 : decode b_R_search 160 = .ok (.getfield 68, 3) := by decide +kernel
theorem d_R_search_163 : decode b_R_search 163 = .ok (.iload 7, 2) := by decide +kernel
theorem d_R_search_165 : decode b_R_search 165 = .ok (.aload_n 0, 1) := by decide +kernel
theorem d_R_search_166 : decode b_R_search 166 = .ok (.getfield 68, 3) := by decide +kernel
theorem d_R_search_169 : decode b_R_search 169 = .ok (.iload 5, 2) := by decide +kernel
theorem d_R_search_171 : decode b_R_search 171 = .ok (.iaload, 1) := by decide +kernel
theorem d_R_search_172 : decode b_R_search 172 = .ok (.iconst 1, 1) := by decide +kernel
theorem d_R_search_173 : decode b_R_search 173 = .ok (.iadd, 1) := by decide +kernel
theorem d_R_search_174 : decode b_R_search 174 = .ok (.iastore, 1) := by decide +kernel
theorem d_R_search_175 : decode b_R_search 175 = .ok (.aload_n 0, 1) := by decide +kernel
theorem d_R_search_176 : decode b_R_search 176 = .ok (.getfield 62, 3) := by decide +kernel
theorem d_R_search_179 : decode b_R_search 179 = .ok (.iload 7, 2) := by decide +kernel
theorem d_R_search_181 : decode b_R_search 181 = .ok (.iload 5, 2) := by decide +kernel
theorem d_R_search_183 : decode b_R_search 183 = .ok (.iastore, 1) := by decide +kernel
theorem d_R_search_184 : decode b_R_search 184 = .ok (.aload_n 0, 1) := by decide +kernel
theorem d_R_search_185 : decode b_R_search 185 = .ok (.getfield 65, 3) := by decide +kernel
theorem d_R_search_188 : decode b_R_search 188 = .ok (.iload 7, 2) := by decide +kernel
theorem d_R_search_190 : decode b_R_search 190 = .ok (.iload 6, 2) := by decide +kernel
theorem d_R_search_192 : decode b_R_search 192 = .ok (.iastore, 1) := by decide +kernel
theorem d_R_search_193 : decode b_R_search 193 = .ok (.aload_n 0, 1) := by decide +kernel
theorem d_R_search_194 : decode b_R_search 194 = .ok (.getfield 71, 3) := by decide +kernel
theorem d_R_search_197 : decode b_R_search 197 = .ok (.iload_n 3, 1) := by decide +kernel
theorem d_R_search_198 : decode b_R_search 198 = .ok (.iload 7, 2) := by decide +kernel
theorem d_R_search_200 : decode b_R_search 200 = .ok (.iastore, 1) := by decide +kernel
theorem d_R_search_201 : decode b_R_search 201 = .ok (.iinc 3 1, 3) := by decide +kernel
theorem d_R_search_204 : decode b_R_search 204 = .ok (.iinc 6 1, 3) := by decide +kernel
theorem d_R_search_207 : decode b_R_search 207 = .ok (.goto (-104), 3) := by decide +kernel
theorem d_R_search_210 : decode b_R_search 210 = .ok (.iinc 4 1, 3) := by decide +kernel
theorem d_R_search_213 : decode b_R_search 213 = .ok (.goto (-169), 3) := by decide +kernel
theorem d_R_search_216 : decode b_R_search 216 = .ok (.iconst (-1), 1) := by decide +kernel
theorem d_R_search_217 : decode b_R_search 217 = .ok (.ireturn, 1) := by decide +kernel
theorem d_R_settle_0 : decode b_R_settle 0 = .ok (.iconst 1, 1) := by decide +kernel
theorem d_R_settle_1 : decode b_R_settle 1 = .ok (.istore_n 2, 1) := by decide +kernel
theorem d_R_settle_2 : decode b_R_settle 2 = .ok (.iload_n 2, 1) := by decide +kernel
theorem d_R_settle_3 : decode b_R_settle 3 = .ok (.ifCond .eq 12, 3) := by decide +kernel
theorem d_R_settle_6 : decode b_R_settle 6 = .ok (.aload_n 0, 1) := by decide +kernel
theorem d_R_settle_7 : decode b_R_settle 7 = .ok (.iload_n 1, 1) := by decide +kernel
theorem d_R_settle_8 : decode b_R_settle 8 = .ok (.invokevirtual 128, 3) := by decide +kernel
theorem d_R_settle_11 : decode b_R_settle 11 = .ok (.istore_n 2, 1) := by decide +kernel
theorem d_R_settle_12 : decode b_R_settle 12 = .ok (.goto (-10), 3) := by decide +kernel
theorem d_R_settle_15 : decode b_R_settle 15 = .ok (.return_, 1) := by decide +kernel
theorem d_R_takesOut_0 : decode b_R_takesOut 0 = .ok (.iconst 1, 1) := by decide +kernel
theorem d_R_takesOut_1 : decode b_R_takesOut 1 = .ok (.istore_n 2, 1) := by decide +kernel
theorem d_R_takesOut_2 : decode b_R_takesOut 2 = .ok (.iconst 0, 1) := by decide +kernel
theorem d_R_takesOut_3 : decode b_R_takesOut 3 = .ok (.istore_n 3, 1) := by decide +kernel
theorem d_R_takesOut_4 : decode b_R_takesOut 4 = .ok (.iload_n 3, 1) := by decide +kernel
theorem d_R_takesOut_5 : decode b_R_takesOut 5 = .ok (.aload_n 0, 1) := by decide +kernel
theorem d_R_takesOut_6 : decode b_R_takesOut 6 = .ok (.getfield 35, 3) := by decide +kernel
theorem d_R_takesOut_9 : decode b_R_takesOut 9 = .ok (.iload_n 1, 1) := by decide +kernel
theorem d_R_takesOut_10 : decode b_R_takesOut 10 = .ok (.iaload, 1) := by decide +kernel
theorem d_R_takesOut_11 : decode b_R_takesOut 11 = .ok (.if_icmp .ge 56, 3) := by decide +kernel
theorem d_R_takesOut_14 : decode b_R_takesOut 14 = .ok (.aload_n 0, 1) := by decide +kernel
theorem d_R_takesOut_15 : decode b_R_takesOut 15 = .ok (.getfield 53, 3) := by decide +kernel
theorem d_R_takesOut_18 : decode b_R_takesOut 18 = .ok (.sipush 200, 3) := by decide +kernel
theorem d_R_takesOut_21 : decode b_R_takesOut 21 = .ok (.iload_n 1, 1) := by decide +kernel
theorem d_R_takesOut_22 : decode b_R_takesOut 22 = .ok (.imul, 1) := by decide +kernel
theorem d_R_takesOut_23 : decode b_R_takesOut 23 = .ok (.iload_n 3, 1) := by decide +kernel
theorem d_R_takesOut_24 : decode b_R_takesOut 24 = .ok (.iadd, 1) := by decide +kernel
theorem d_R_takesOut_25 : decode b_R_takesOut 25 = .ok (.aload_n 0, 1) := by decide +kernel
theorem d_R_takesOut_26 : decode b_R_takesOut 26 = .ok (.getfield 50, 3) := by decide +kernel
theorem d_R_takesOut_29 : decode b_R_takesOut 29 = .ok (.sipush 200, 3) := by decide +kernel
theorem d_R_takesOut_32 : decode b_R_takesOut 32 = .ok (.iload_n 1, 1) := by decide +kernel
theorem d_R_takesOut_33 : decode b_R_takesOut 33 = .ok (.imul, 1) := by decide +kernel
theorem d_R_takesOut_34 : decode b_R_takesOut 34 = .ok (.iload_n 3, 1) := by decide +kernel
theorem d_R_takesOut_35 : decode b_R_takesOut 35 = .ok (.iadd, 1) := by decide +kernel
theorem d_R_takesOut_36 : decode b_R_takesOut 36 = .ok (.baload, 1) := by decide +kernel
theorem d_R_takesOut_37 : decode b_R_takesOut 37 = .ok (.ifCond .ne 22, 3) := by decide +kernel
theorem d_R_takesOut_40 : decode b_R_takesOut 40 = .ok (.aload_n 0, 1) := by decide +kernel
theorem d_R_takesOut_41 : decode b_R_takesOut 41 = .ok (.getfield 47, 3) := by decide +kernel
theorem d_R_takesOut_44 : decode b_R_takesOut 44 = .ok (.sipush 200, 3) := by decide +kernel
theorem d_R_takesOut_47 : decode b_R_takesOut 47 = .ok (.iload_n 1, 1) := by decide +kernel
theorem d_R_takesOut_48 : decode b_R_takesOut 48 = .ok (.imul, 1) := by decide +kernel
theorem d_R_takesOut_49 : decode b_R_takesOut 49 = .ok (.iload_n 3, 1) := by decide +kernel
theorem d_R_takesOut_50 : decode b_R_takesOut 50 = .ok (.iadd, 1) := by decide +kernel
theorem d_R_takesOut_51 : decode b_R_takesOut 51 = .ok (.baload, 1) := by decide +kernel
theorem d_R_takesOut_52 : decode b_R_takesOut 52 = .ok (.ifCond .eq 7, 3) := by decide +kernel
theorem d_R_takesOut_55 : decode b_R_takesOut 55 = .ok (.iconst 1, 1) := by decide +kernel
theorem d_R_takesOut_56 : decode b_R_takesOut 56 = .ok (.goto 4, 3) := by decide +kernel
theorem d_R_takesOut_59 : decode b_R_takesOut 59 = .ok (.iconst 0, 1) := by decide +kernel
theorem d_R_takesOut_60 : decode b_R_takesOut 60 = .ok (.bastore, 1) := by decide +kernel
theorem d_R_takesOut_61 : decode b_R_takesOut 61 = .ok (.iinc 3 1, 3) := by decide +kernel
theorem d_R_takesOut_64 : decode b_R_takesOut 64 = .ok (.goto (-60), 3) := by decide +kernel
theorem d_R_takesOut_67 : decode b_R_takesOut 67 = .ok (.iload_n 2, 1) := by decide +kernel
theorem d_R_takesOut_68 : decode b_R_takesOut 68 = .ok (.ifCond .eq 156, 3) := by decide +kernel
theorem d_R_takesOut_71 : decode b_R_takesOut 71 = .ok (.iconst 0, 1) := by decide +kernel
theorem d_R_takesOut_72 : decode b_R_takesOut 72 = .ok (.istore_n 2, 1) := by decide +kernel
theorem d_R_takesOut_73 : decode b_R_takesOut 73 = .ok (.iconst 0, 1) := by decide +kernel
theorem d_R_takesOut_74 : decode b_R_takesOut 74 = .ok (.istore_n 3, 1) := by decide +kernel
theorem d_R_takesOut_75 : decode b_R_takesOut 75 = .ok (.iload_n 3, 1) := by decide +kernel
theorem d_R_takesOut_76 : decode b_R_takesOut 76 = .ok (.aload_n 0, 1) := by decide +kernel
theorem d_R_takesOut_77 : decode b_R_takesOut 77 = .ok (.getfield 35, 3) := by decide +kernel
theorem d_R_takesOut_80 : decode b_R_takesOut 80 = .ok (.iload_n 1, 1) := by decide +kernel
theorem d_R_takesOut_81 : decode b_R_takesOut 81 = .ok (.iaload, 1) := by decide +kernel
theorem d_R_takesOut_82 : decode b_R_takesOut 82 = .ok (.if_icmp .ge 139, 3) := by decide +kernel
theorem d_R_takesOut_85 : decode b_R_takesOut 85 = .ok (.sipush 200, 3) := by decide +kernel
theorem d_R_takesOut_88 : decode b_R_takesOut 88 = .ok (.iload_n 1, 1) := by decide +kernel
theorem d_R_takesOut_89 : decode b_R_takesOut 89 = .ok (.imul, 1) := by decide +kernel
theorem d_R_takesOut_90 : decode b_R_takesOut 90 = .ok (.iload_n 3, 1) := by decide +kernel
theorem d_R_takesOut_91 : decode b_R_takesOut 91 = .ok (.iadd, 1) := by decide +kernel
theorem d_R_takesOut_92 : decode b_R_takesOut 92 = .ok (.istore 4, 2) := by decide +kernel
theorem d_R_takesOut_94 : decode b_R_takesOut 94 = .ok (.aload_n 0, 1) := by decide +kernel
theorem d_R_takesOut_95 : decode b_R_takesOut 95 = .ok (.getfield 53, 3) := by decide +kernel
theorem d_R_takesOut_98 : decode b_R_takesOut 98 = .ok (.iload 4, 2) := by decide +kernel
theorem d_R_takesOut_100 : decode b_R_takesOut 100 = .ok (.baload, 1) := by decide +kernel
theorem d_R_takesOut_101 : decode b_R_takesOut 101 = .ok (.istore 5, 2) := by decide +kernel
theorem d_R_takesOut_103 : decode b_R_takesOut 103 = .ok (.iconst 0, 1) := by decide +kernel
theorem d_R_takesOut_104 : decode b_R_takesOut 104 = .ok (.istore 6, 2) := by decide +kernel
theorem d_R_takesOut_106 : decode b_R_takesOut 106 = .ok (.iload 6, 2) := by decide +kernel
theorem d_R_takesOut_108 : decode b_R_takesOut 108 = .ok (.bipush 12, 2) := by decide +kernel
theorem d_R_takesOut_110 : decode b_R_takesOut 110 = .ok (.if_icmp .ge 74, 3) := by decide +kernel
theorem d_R_takesOut_113 : decode b_R_takesOut 113 = .ok (.aload_n 0, 1) := by decide +kernel
theorem d_R_takesOut_114 : decode b_R_takesOut 114 = .ok (.getfield 50, 3) := by decide +kernel
theorem d_R_takesOut_117 : decode b_R_takesOut 117 = .ok (.iload 4, 2) := by decide +kernel
theorem d_R_takesOut_119 : decode b_R_takesOut 119 = .ok (.baload, 1) := by decide +kernel
theorem d_R_takesOut_120 : decode b_R_takesOut 120 = .ok (.ifCond .ne 64, 3) := by decide +kernel
theorem d_R_takesOut_123 : decode b_R_takesOut 123 = .ok (.iload 5, 2) := by decide +kernel
theorem d_R_takesOut_125 : decode b_R_takesOut 125 = .ok (.ifCond .ne 46, 3) := by decide +kernel
theorem d_R_takesOut_128 : decode b_R_takesOut 128 = .ok (.aload_n 0, 1) := by decide +kernel
theorem d_R_takesOut_129 : decode b_R_takesOut 129 = .ok (.getfield 41, 3) := by decide +kernel
theorem d_R_takesOut_132 : decode b_R_takesOut 132 = .ok (.bipush 12, 2) := by decide +kernel
theorem d_R_takesOut_134 : decode b_R_takesOut 134 = .ok (.iload 4, 2) := by decide +kernel
theorem d_R_takesOut_136 : decode b_R_takesOut 136 = .ok (.imul, 1) := by decide +kernel
theorem d_R_takesOut_137 : decode b_R_takesOut 137 = .ok (.iload 6, 2) := by decide +kernel
theorem d_R_takesOut_139 : decode b_R_takesOut 139 = .ok (.iadd, 1) := by decide +kernel
theorem d_R_takesOut_140 : decode b_R_takesOut 140 = .ok (.iaload, 1) := by decide +kernel
theorem d_R_takesOut_141 : decode b_R_takesOut 141 = .ok (.ifCond .lt 34, 3) := by decide +kernel
theorem d_R_takesOut_144 : decode b_R_takesOut 144 = .ok (.aload_n 0, 1) := by decide +kernel
theorem d_R_takesOut_145 : decode b_R_takesOut 145 = .ok (.getfield 53, 3) := by decide +kernel
theorem d_R_takesOut_148 : decode b_R_takesOut 148 = .ok (.sipush 200, 3) := by decide +kernel
theorem d_R_takesOut_151 : decode b_R_takesOut 151 = .ok (.iload_n 1, 1) := by decide +kernel
theorem d_R_takesOut_152 : decode b_R_takesOut 152 = .ok (.imul, 1) := by decide +kernel
theorem d_R_takesOut_153 : decode b_R_takesOut 153 = .ok (.aload_n 0, 1) := by decide +kernel
theorem d_R_takesOut_154 : decode b_R_takesOut 154 = .ok (.getfield 41, 3) := by decide +kernel
theorem d_R_takesOut_157 : decode b_R_takesOut 157 = .ok (.bipush 12, 2) := by decide +kernel
theorem d_R_takesOut_159 : decode b_R_takesOut 159 = .ok (.iload 4, 2) := by decide +kernel
theorem d_R_takesOut_161 : decode b_R_takesOut 161 = .ok (.imul, 1) := by decide +kernel
theorem d_R_takesOut_162 : decode b_R_takesOut 162 = .ok (.iload 6, 2) := by decide +kernel
theorem d_R_takesOut_164 : decode b_R_takesOut 164 = .ok (.iadd, 1) := by decide +kernel
theorem d_R_takesOut_165 : decode b_R_takesOut 165 = .ok (.iaload, 1) := by decide +kernel
theorem d_R_takesOut_166 : decode b_R_takesOut 166 = .ok (.iadd, 1) := by decide +kernel
theorem d_R_takesOut_167 : decode b_R_takesOut 167 = .ok (.baload, 1) := by decide +kernel
theorem d_R_takesOut_168 : decode b_R_takesOut 168 = .ok (.ifCond .eq 7, 3) := by decide +kernel
theorem d_R_takesOut_171 : decode b_R_takesOut 171 = .ok (.iconst 1, 1) := by decide +kernel
theorem d_R_takesOut_172 : decode b_R_takesOut 172 = .ok (.goto 4, 3) := by decide +kernel
theorem d_R_takesOut_175 : decode b_R_takesOut 175 = .ok (.iconst 0, 1) := by decide +kernel
theorem d_R_takesOut_176 : decode b_R_takesOut 176 = .ok (.istore 5, 2) := by decide +kernel
theorem d_R_takesOut_178 : decode b_R_takesOut 178 = .ok (.iinc 6 1, 3) := by decide +kernel
theorem d_R_takesOut_181 : decode b_R_takesOut 181 = .ok (.goto (-75), 3) := by decide +kernel
theorem d_R_takesOut_184 : decode b_R_takesOut 184 = .ok (.iload_n 2, 1) := by decide +kernel
theorem d_R_takesOut_185 : decode b_R_takesOut 185 = .ok (.ifCond .ne 15, 3) := by decide +kernel
theorem d_R_takesOut_188 : decode b_R_takesOut 188 = .ok (.iload 5, 2) := by decide +kernel
theorem d_R_takesOut_190 : decode b_R_takesOut 190 = .ok (.aload_n 0, 1) := by decide +kernel
theorem d_R_takesOut_191 : decode b_R_takesOut 191 = .ok (.getfield 53, 3) := by decide +kernel
theorem d_R_takesOut_194 : decode b_R_takesOut 194 = .ok (.iload 4, 2) := by decide +kernel
theorem d_R_takesOut_196 : decode b_R_takesOut 196 = .ok (.baload, 1) := by decide +kernel
theorem d_R_takesOut_197 : decode b_R_takesOut 197 = .ok (.if_icmp .eq 7, 3) := by decide +kernel
theorem d_R_takesOut_200 : decode b_R_takesOut 200 = .ok (.iconst 1, 1) := by decide +kernel
theorem d_R_takesOut_201 : decode b_R_takesOut 201 = .ok (.goto 4, 3) := by decide +kernel
theorem d_R_takesOut_204 : decode b_R_takesOut 204 = .ok (.iconst 0, 1) := by decide +kernel
theorem d_R_takesOut_205 : decode b_R_takesOut 205 = .ok (.istore_n 2, 1) := by decide +kernel
theorem d_R_takesOut_206 : decode b_R_takesOut 206 = .ok (.aload_n 0, 1) := by decide +kernel
theorem d_R_takesOut_207 : decode b_R_takesOut 207 = .ok (.getfield 53, 3) := by decide +kernel
theorem d_R_takesOut_210 : decode b_R_takesOut 210 = .ok (.iload 4, 2) := by decide +kernel
theorem d_R_takesOut_212 : decode b_R_takesOut 212 = .ok (.iload 5, 2) := by decide +kernel
theorem d_R_takesOut_214 : decode b_R_takesOut 214 = .ok (.bastore, 1) := by decide +kernel
theorem d_R_takesOut_215 : decode b_R_takesOut 215 = .ok (.iinc 3 1, 3) := by decide +kernel
theorem d_R_takesOut_218 : decode b_R_takesOut 218 = .ok (.goto (-143), 3) := by decide +kernel
theorem d_R_takesOut_221 : decode b_R_takesOut 221 = .ok (.goto (-154), 3) := by decide +kernel
theorem d_R_takesOut_224 : decode b_R_takesOut 224 = .ok (.iconst 0, 1) := by decide +kernel
theorem d_R_takesOut_225 : decode b_R_takesOut 225 = .ok (.istore_n 3, 1) := by decide +kernel
theorem d_R_takesOut_226 : decode b_R_takesOut 226 = .ok (.iload_n 3, 1) := by decide +kernel
theorem d_R_takesOut_227 : decode b_R_takesOut 227 = .ok (.aload_n 0, 1) := by decide +kernel
theorem d_R_takesOut_228 : decode b_R_takesOut 228 = .ok (.getfield 35, 3) := by decide +kernel
theorem d_R_takesOut_231 : decode b_R_takesOut 231 = .ok (.iload_n 1, 1) := by decide +kernel
theorem d_R_takesOut_232 : decode b_R_takesOut 232 = .ok (.iaload, 1) := by decide +kernel
theorem d_R_takesOut_233 : decode b_R_takesOut 233 = .ok (.if_icmp .ge 157, 3) := by decide +kernel
theorem d_R_takesOut_236 : decode b_R_takesOut 236 = .ok (.sipush 200, 3) := by decide +kernel
theorem d_R_takesOut_239 : decode b_R_takesOut 239 = .ok (.iload_n 1, 1) := by decide +kernel
theorem d_R_takesOut_240 : decode b_R_takesOut 240 = .ok (.imul, 1) := by decide +kernel
theorem d_R_takesOut_241 : decode b_R_takesOut 241 = .ok (.iload_n 3, 1) := by decide +kernel
theorem d_R_takesOut_242 : decode b_R_takesOut 242 = .ok (.iadd, 1) := by decide +kernel
theorem d_R_takesOut_243 : decode b_R_takesOut 243 = .ok (.istore 4, 2) := by decide +kernel
theorem d_R_takesOut_245 : decode b_R_takesOut 245 = .ok (.aload_n 0, 1) := by decide +kernel
theorem d_R_takesOut_246 : decode b_R_takesOut 246 = .ok (.getfield 53, 3) := by decide +kernel
theorem d_R_takesOut_249 : decode b_R_takesOut 249 = .ok (.iload 4, 2) := by decide +kernel
theorem d_R_takesOut_251 : decode b_R_takesOut 251 = .ok (.baload, 1) := by decide +kernel
theorem d_R_takesOut_252 : decode b_R_takesOut 252 = .ok (.ifCond .ne 7, 3) := by decide +kernel
theorem d_R_takesOut_255 : decode b_R_takesOut 255 = .ok (.iconst 1, 1) := by decide +kernel
theorem d_R_takesOut_256 : decode b_R_takesOut 256 = .ok (.goto 4, 3) := by decide +kernel
theorem d_R_takesOut_259 : decode b_R_takesOut 259 = .ok (.iconst 0, 1) := by decide +kernel
theorem d_R_takesOut_260 : decode b_R_takesOut 260 = .ok (.istore 5, 2) := by decide +kernel
theorem d_R_takesOut_262 : decode b_R_takesOut 262 = .ok (.iconst 0, 1) := by decide +kernel
theorem d_R_takesOut_263 : decode b_R_takesOut 263 = .ok (.istore 6, 2) := by decide +kernel
theorem d_R_takesOut_265 : decode b_R_takesOut 265 = .ok (.iload 6, 2) := by decide +kernel
theorem d_R_takesOut_267 : decode b_R_takesOut 267 = .ok (.bipush 12, 2) := by decide +kernel
theorem d_R_takesOut_269 : decode b_R_takesOut 269 = .ok (.if_icmp .ge 90, 3) := by decide +kernel
theorem d_R_takesOut_272 : decode b_R_takesOut 272 = .ok (.iload 5, 2) := by decide +kernel
theorem d_R_takesOut_274 : decode b_R_takesOut 274 = .ok (.ifCond .ne 72, 3) := by decide +kernel
theorem d_R_takesOut_277 : decode b_R_takesOut 277 = .ok (.aload_n 0, 1) := by decide +kernel
theorem d_R_takesOut_278 : decode b_R_takesOut 278 = .ok (.getfield 44, 3) := by decide +kernel
theorem d_R_takesOut_281 : decode b_R_takesOut 281 = .ok (.bipush 12, 2) := by decide +kernel
theorem d_R_takesOut_283 : decode b_R_takesOut 283 = .ok (.iload 4, 2) := by decide +kernel
theorem d_R_takesOut_285 : decode b_R_takesOut 285 = .ok (.imul, 1) := by decide +kernel
theorem d_R_takesOut_286 : decode b_R_takesOut 286 = .ok (.iload 6, 2) := by decide +kernel
theorem d_R_takesOut_288 : decode b_R_takesOut 288 = .ok (.iadd, 1) := by decide +kernel
theorem d_R_takesOut_289 : decode b_R_takesOut 289 = .ok (.baload, 1) := by decide +kernel
theorem d_R_takesOut_290 : decode b_R_takesOut 290 = .ok (.ifCond .eq 60, 3) := by decide +kernel
theorem d_R_takesOut_293 : decode b_R_takesOut 293 = .ok (.aload_n 0, 1) := by decide +kernel
theorem d_R_takesOut_294 : decode b_R_takesOut 294 = .ok (.getfield 32, 3) := by decide +kernel
theorem d_R_takesOut_297 : decode b_R_takesOut 297 = .ok (.iload 6, 2) := by decide +kernel
theorem d_R_takesOut_299 : decode b_R_takesOut 299 = .ok (.baload, 1) := by decide +kernel
theorem d_R_takesOut_300 : decode b_R_takesOut 300 = .ok (.ifCond .ne 50, 3) := by decide +kernel
theorem d_R_takesOut_303 : decode b_R_takesOut 303 = .ok (.aload_n 0, 1) := by decide +kernel
theorem d_R_takesOut_304 : decode b_R_takesOut 304 = .ok (.getfield 41, 3) := by decide +kernel
theorem d_R_takesOut_307 : decode b_R_takesOut 307 = .ok (.bipush 12, 2) := by decide +kernel
theorem d_R_takesOut_309 : decode b_R_takesOut 309 = .ok (.iload 4, 2) := by decide +kernel
theorem d_R_takesOut_311 : decode b_R_takesOut 311 = .ok (.imul, 1) := by decide +kernel
theorem d_R_takesOut_312 : decode b_R_takesOut 312 = .ok (.iload 6, 2) := by decide +kernel
theorem d_R_takesOut_314 : decode b_R_takesOut 314 = .ok (.iadd, 1) := by decide +kernel
theorem d_R_takesOut_315 : decode b_R_takesOut 315 = .ok (.iaload, 1) := by decide +kernel
theorem d_R_takesOut_316 : decode b_R_takesOut 316 = .ok (.ifCond .lt 30, 3) := by decide +kernel
theorem d_R_takesOut_319 : decode b_R_takesOut 319 = .ok (.aload_n 0, 1) := by decide +kernel
theorem d_R_takesOut_320 : decode b_R_takesOut 320 = .ok (.getfield 50, 3) := by decide +kernel
theorem d_R_takesOut_323 : decode b_R_takesOut 323 = .ok (.sipush 200, 3) := by decide +kernel
theorem d_R_takesOut_326 : decode b_R_takesOut 326 = .ok (.iload_n 1, 1) := by decide +kernel
theorem d_R_takesOut_327 : decode b_R_takesOut 327 = .ok (.imul, 1) := by decide +kernel
theorem d_R_takesOut_328 : decode b_R_takesOut 328 = .ok (.aload_n 0, 1) := by decide +kernel
theorem d_R_takesOut_329 : decode b_R_takesOut 329 = .ok (.getfield 41, 3) := by decide +kernel
theorem d_R_takesOut_332 : decode b_R_takesOut 332 = .ok (.bipush 12, 2) := by decide +kernel
theorem d_R_takesOut_334 : decode b_R_takesOut 334 = .ok (.iload 4, 2) := by decide +kernel
theorem d_R_takesOut_336 : decode b_R_takesOut 336 = .ok (.imul, 1) := by decide +kernel
theorem d_R_takesOut_337 : decode b_R_takesOut 337 = .ok (.iload 6, 2) := by decide +kernel
theorem d_R_takesOut_339 : decode b_R_takesOut 339 = .ok (.iadd, 1) := by decide +kernel
theorem d_R_takesOut_340 : decode b_R_takesOut 340 = .ok (.iaload, 1) := by decide +kernel
theorem d_R_takesOut_341 : decode b_R_takesOut 341 = .ok (.iadd, 1) := by decide +kernel
theorem d_R_takesOut_342 : decode b_R_takesOut 342 = .ok (.baload, 1) := by decide +kernel
theorem d_R_takesOut_343 : decode b_R_takesOut 343 = .ok (.ifCond .eq 7, 3) := by decide +kernel
theorem d_R_takesOut_346 : decode b_R_takesOut 346 = .ok (.iconst 1, 1) := by decide +kernel
theorem d_R_takesOut_347 : decode b_R_takesOut 347 = .ok (.goto 4, 3) := by decide +kernel
theorem d_R_takesOut_350 : decode b_R_takesOut 350 = .ok (.iconst 0, 1) := by decide +kernel
theorem d_R_takesOut_351 : decode b_R_takesOut 351 = .ok (.istore 5, 2) := by decide +kernel
theorem d_R_takesOut_353 : decode b_R_takesOut 353 = .ok (.iinc 6 1, 3) := by decide +kernel
theorem d_R_takesOut_356 : decode b_R_takesOut 356 = .ok (.goto (-91), 3) := by decide +kernel
theorem d_R_takesOut_359 : decode b_R_takesOut 359 = .ok (.aload_n 0, 1) := by decide +kernel
theorem d_R_takesOut_360 : decode b_R_takesOut 360 = .ok (.getfield 50, 3) := by decide +kernel
theorem d_R_takesOut_363 : decode b_R_takesOut 363 = .ok (.iload 4, 2) := by decide +kernel
theorem d_R_takesOut_365 : decode b_R_takesOut 365 = .ok (.baload, 1) := by decide +kernel
theorem d_R_takesOut_366 : decode b_R_takesOut 366 = .ok (.ifCond .ne 18, 3) := by decide +kernel
theorem d_R_takesOut_369 : decode b_R_takesOut 369 = .ok (.iload 5, 2) := by decide +kernel
theorem d_R_takesOut_371 : decode b_R_takesOut 371 = .ok (.ifCond .eq 13, 3) := by decide +kernel
theorem d_R_takesOut_374 : decode b_R_takesOut 374 = .ok (.aload_n 0, 1) := by decide +kernel
theorem d_R_takesOut_375 : decode b_R_takesOut 375 = .ok (.getfield 50, 3) := by decide +kernel
theorem d_R_takesOut_378 : decode b_R_takesOut 378 = .ok (.iload 4, 2) := by decide +kernel
theorem d_R_takesOut_380 : decode b_R_takesOut 380 = .ok (.iconst 1, 1) := by decide +kernel
theorem d_R_takesOut_381 : decode b_R_takesOut 381 = .ok (.bastore, 1) := by decide +kernel
theorem d_R_takesOut_382 : decode b_R_takesOut 382 = .ok (.iconst 1, 1) := by decide +kernel
theorem d_R_takesOut_383 : decode b_R_takesOut 383 = .ok (.istore_n 2, 1) := by decide +kernel
theorem d_R_takesOut_384 : decode b_R_takesOut 384 = .ok (.iinc 3 1, 3) := by decide +kernel
theorem d_R_takesOut_387 : decode b_R_takesOut 387 = .ok (.goto (-161), 3) := by decide +kernel
theorem d_R_takesOut_390 : decode b_R_takesOut 390 = .ok (.iload_n 2, 1) := by decide +kernel
theorem d_R_takesOut_391 : decode b_R_takesOut 391 = .ok (.ireturn, 1) := by decide +kernel
theorem d_R_takesPart_0 : decode b_R_takesPart 0 = .ok (.aload_n 0, 1) := by decide +kernel
theorem d_R_takesPart_1 : decode b_R_takesPart 1 = .ok (.getfield 13, 3) := by decide +kernel
theorem d_R_takesPart_4 : decode b_R_takesPart 4 = .ok (.iload_n 1, 1) := by decide +kernel
theorem d_R_takesPart_5 : decode b_R_takesPart 5 = .ok (.baload, 1) := by decide +kernel
theorem d_R_takesPart_6 : decode b_R_takesPart 6 = .ok (.ifCond .ne 12, 3) := by decide +kernel
theorem d_R_takesPart_9 : decode b_R_takesPart 9 = .ok (.iload_n 2, 1) := by decide +kernel
theorem d_R_takesPart_10 : decode b_R_takesPart 10 = .ok (.ifCond .lt 8, 3) := by decide +kernel
theorem d_R_takesPart_13 : decode b_R_takesPart 13 = .ok (.iload_n 1, 1) := by decide +kernel
theorem d_R_takesPart_14 : decode b_R_takesPart 14 = .ok (.iload_n 2, 1) := by decide +kernel
theorem d_R_takesPart_15 : decode b_R_takesPart 15 = .ok (.if_icmp .ne 7, 3) := by decide +kernel
theorem d_R_takesPart_18 : decode b_R_takesPart 18 = .ok (.iconst 1, 1) := by decide +kernel
theorem d_R_takesPart_19 : decode b_R_takesPart 19 = .ok (.goto 4, 3) := by decide +kernel
theorem d_R_takesPart_22 : decode b_R_takesPart 22 = .ok (.iconst 0, 1) := by decide +kernel
theorem d_R_takesPart_23 : decode b_R_takesPart 23 = .ok (.ireturn, 1) := by decide +kernel
theorem d_R_tell_0 : decode b_R_tell 0 = .ok (.aload_n 0, 1) := by decide +kernel
theorem d_R_tell_1 : decode b_R_tell 1 = .ok (.aload_n 0, 1) := by decide +kernel
theorem d_R_tell_2 : decode b_R_tell 2 = .ok (.iload_n 1, 1) := by decide +kernel
theorem d_R_tell_3 : decode b_R_tell 3 = .ok (.iload_n 2, 1) := by decide +kernel
theorem d_R_tell_4 : decode b_R_tell 4 = .ok (.invokevirtual 108, 3) := by decide +kernel
theorem d_R_tell_7 : decode b_R_tell 7 = .ok (.ifCond .ne 11, 3) := by decide +kernel
theorem d_R_tell_10 : decode b_R_tell 10 = .ok (.iload_n 3, 1) := by decide +kernel
theorem d_R_tell_11 : decode b_R_tell 11 = .ok (.iconst 3, 1) := by decide +kernel
theorem d_R_tell_12 : decode b_R_tell 12 = .ok (.invokestatic 94, 3) := by decide +kernel
theorem d_R_tell_15 : decode b_R_tell 15 = .ok (.ifCond .eq 7, 3) := by decide +kernel
theorem d_R_tell_18 : decode b_R_tell 18 = .ok (.iconst 1, 1) := by decide +kernel
theorem d_R_tell_19 : decode b_R_tell 19 = .ok (.goto 4, 3) := by decide +kernel
theorem d_R_tell_22 : decode b_R_tell 22 = .ok (.iconst 0, 1) := by decide +kernel
theorem d_R_tell_23 : decode b_R_tell 23 = .ok (.iconst 0, 1) := by decide +kernel
theorem d_R_tell_24 : decode b_R_tell 24 = .ok (.invokevirtual 101, 3) := by decide +kernel
theorem d_R_tell_27 : decode b_R_tell 27 = .ok (.ifCond .eq 4, 3) := by decide +kernel
theorem d_R_tell_30 : decode b_R_tell 30 = .ok (.return_, 1) := by decide +kernel
theorem d_R_tell_31 : decode b_R_tell 31 = .ok (.aload_n 0, 1) := by decide +kernel
theorem d_R_tell_32 : decode b_R_tell 32 = .ok (.invokevirtual 105, 3) := by decide +kernel
theorem d_R_tell_35 : decode b_R_tell 35 = .ok (.iload_n 3, 1) := by decide +kernel
theorem d_R_tell_36 : decode b_R_tell 36 = .ok (.ifCond .ne 34, 3) := by decide +kernel
theorem d_R_tell_39 : decode b_R_tell 39 = .ok (.iload 4, 2) := by decide +kernel
theorem d_R_tell_41 : decode b_R_tell 41 = .ok (.ifCond .ne 13, 3) := by decide +kernel
theorem d_R_tell_44 : decode b_R_tell 44 = .ok (.aload_n 0, 1) := by decide +kernel
theorem d_R_tell_45 : decode b_R_tell 45 = .ok (.getfield 17, 3) := by decide +kernel
theorem d_R_tell_48 : decode b_R_tell 48 = .ok (.iload_n 1, 1) := by decide +kernel
theorem d_R_tell_49 : decode b_R_tell 49 = .ok (.iaload, 1) := by decide +kernel
theorem d_R_tell_50 : decode b_R_tell 50 = .ok (.iload_n 2, 1) := by decide +kernel
theorem d_R_tell_51 : decode b_R_tell 51 = .ok (.if_icmp .ne 19, 3) := by decide +kernel
theorem d_R_tell_54 : decode b_R_tell 54 = .ok (.aload_n 0, 1) := by decide +kernel
theorem d_R_tell_55 : decode b_R_tell 55 = .ok (.getfield 17, 3) := by decide +kernel
theorem d_R_tell_58 : decode b_R_tell 58 = .ok (.iload_n 1, 1) := by decide +kernel
theorem d_R_tell_59 : decode b_R_tell 59 = .ok (.iload 4, 2) := by decide +kernel
theorem d_R_tell_61 : decode b_R_tell 61 = .ok (.ifCond .eq 7, 3) := by decide +kernel
theorem d_R_tell_64 : decode b_R_tell 64 = .ok (.iload_n 2, 1) := by decide +kernel
theorem d_R_tell_65 : decode b_R_tell 65 = .ok (.goto 4, 3) := by decide +kernel
theorem d_R_tell_68 : decode b_R_tell 68 = .ok (.iconst (-1), 1) := by decide +kernel
theorem d_R_tell_69 : decode b_R_tell 69 = .ok (.iastore, 1) := by decide +kernel
theorem d_R_tell_70 : decode b_R_tell 70 = .ok (.iload_n 3, 1) := by decide +kernel
theorem d_R_tell_71 : decode b_R_tell 71 = .ok (.iconst 1, 1) := by decide +kernel
theorem d_R_tell_72 : decode b_R_tell 72 = .ok (.if_icmp .ne 16, 3) := by decide +kernel
theorem d_R_tell_75 : decode b_R_tell 75 = .ok (.aload_n 0, 1) := by decide +kernel
theorem d_R_tell_76 : decode b_R_tell 76 = .ok (.getfield 20, 3) := by decide +kernel
theorem d_R_tell_79 : decode b_R_tell 79 = .ok (.bipush 6, 2) := by decide +kernel
theorem d_R_tell_81 : decode b_R_tell 81 = .ok (.iload_n 1, 1) := by decide +kernel
theorem d_R_tell_82 : decode b_R_tell 82 = .ok (.imul, 1) := by decide +kernel
theorem d_R_tell_83 : decode b_R_tell 83 = .ok (.iload_n 2, 1) := by decide +kernel
theorem d_R_tell_84 : decode b_R_tell 84 = .ok (.iadd, 1) := by decide +kernel
theorem d_R_tell_85 : decode b_R_tell 85 = .ok (.iload 4, 2) := by decide +kernel
theorem d_R_tell_87 : decode b_R_tell 87 = .ok (.bastore, 1) := by decide +kernel
theorem d_R_tell_88 : decode b_R_tell 88 = .ok (.iload_n 3, 1) := by decide +kernel
theorem d_R_tell_89 : decode b_R_tell 89 = .ok (.iconst 2, 1) := by decide +kernel
theorem d_R_tell_90 : decode b_R_tell 90 = .ok (.if_icmp .ne 16, 3) := by decide +kernel
theorem d_R_tell_93 : decode b_R_tell 93 = .ok (.aload_n 0, 1) := by decide +kernel
theorem d_R_tell_94 : decode b_R_tell 94 = .ok (.getfield 23, 3) := by decide +kernel
theorem d_R_tell_97 : decode b_R_tell 97 = .ok (.bipush 6, 2) := by decide +kernel
theorem d_R_tell_99 : decode b_R_tell 99 = .ok (.iload_n 1, 1) := by decide +kernel
theorem d_R_tell_100 : decode b_R_tell 100 = .ok (.imul, 1) := by decide +kernel
theorem d_R_tell_101 : decode b_R_tell 101 = .ok (.iload_n 2, 1) := by decide +kernel
theorem d_R_tell_102 : decode b_R_tell 102 = .ok (.iadd, 1) := by decide +kernel
theorem d_R_tell_103 : decode b_R_tell 103 = .ok (.iload 4, 2) := by decide +kernel
theorem d_R_tell_105 : decode b_R_tell 105 = .ok (.bastore, 1) := by decide +kernel
theorem d_R_tell_106 : decode b_R_tell 106 = .ok (.return_, 1) := by decide +kernel
theorem d_R_throwing_0 : decode b_R_throwing 0 = .ok (.aload_n 0, 1) := by decide +kernel
theorem d_R_throwing_1 : decode b_R_throwing 1 = .ok (.iload_n 1, 1) := by decide +kernel
theorem d_R_throwing_2 : decode b_R_throwing 2 = .ok (.ifCond .eq 7, 3) := by decide +kernel
theorem d_R_throwing_5 : decode b_R_throwing 5 = .ok (.iconst 1, 1) := by decide +kernel
theorem d_R_throwing_6 : decode b_R_throwing 6 = .ok (.goto 12, 3) := by decide +kernel
theorem d_R_throwing_9 : decode b_R_throwing 9 = .ok (.iload_n 2, 1) := by decide +kernel
theorem d_R_throwing_10 : decode b_R_throwing 10 = .ok (.ifCond .eq 7, 3) := by decide +kernel
theorem d_R_throwing_13 : decode b_R_throwing 13 = .ok (.iconst 2, 1) := by decide +kernel
theorem d_R_throwing_14 : decode b_R_throwing 14 = .ok (.goto 4, 3) := by decide +kernel
theorem d_R_throwing_17 : decode b_R_throwing 17 = .ok (.iconst 0, 1) := by decide +kernel
theorem d_R_throwing_18 : decode b_R_throwing 18 = .ok (.putfield 83, 3) := by decide +kernel
theorem d_R_throwing_21 : decode b_R_throwing 21 = .ok (.aload_n 0, 1) := by decide +kernel
theorem d_R_throwing_22 : decode b_R_throwing 22 = .ok (.getfield 83, 3) := by decide +kernel
theorem d_R_throwing_25 : decode b_R_throwing 25 = .ok (.ifCond .le 7, 3) := by decide +kernel
theorem d_R_throwing_28 : decode b_R_throwing 28 = .ok (.iconst 1, 1) := by decide +kernel
theorem d_R_throwing_29 : decode b_R_throwing 29 = .ok (.goto 4, 3) := by decide +kernel
theorem d_R_throwing_32 : decode b_R_throwing 32 = .ok (.iconst 0, 1) := by decide +kernel
theorem d_R_throwing_33 : decode b_R_throwing 33 = .ok (.ireturn, 1) := by decide +kernel
theorem d_R_thrown_0 : decode b_R_thrown 0 = .ok (.aload_n 0, 1) := by decide +kernel
theorem d_R_thrown_1 : decode b_R_thrown 1 = .ok (.getfield 83, 3) := by decide +kernel
theorem d_R_thrown_4 : decode b_R_thrown 4 = .ok (.ireturn, 1) := by decide +kernel
theorem d_R_why_0 : decode b_R_why 0 = .ok (.aload_n 0, 1) := by decide +kernel
theorem d_R_why_1 : decode b_R_why 1 = .ok (.aload_n 0, 1) := by decide +kernel
theorem d_R_why_2 : decode b_R_why 2 = .ok (.getfield 87, 3) := by decide +kernel
theorem d_R_why_5 : decode b_R_why 5 = .ok (.ifCond .ne 7, 3) := by decide +kernel
theorem d_R_why_8 : decode b_R_why 8 = .ok (.iconst 1, 1) := by decide +kernel
theorem d_R_why_9 : decode b_R_why 9 = .ok (.goto 4, 3) := by decide +kernel
theorem d_R_why_12 : decode b_R_why 12 = .ok (.iconst 0, 1) := by decide +kernel
theorem d_R_why_13 : decode b_R_why 13 = .ok (.iconst 0, 1) := by decide +kernel
theorem d_R_why_14 : decode b_R_why 14 = .ok (.invokevirtual 101, 3) := by decide +kernel
theorem d_R_why_17 : decode b_R_why 17 = .ok (.ifCond .eq 7, 3) := by decide +kernel
theorem d_R_why_20 : decode b_R_why 20 = .ok (.iconst 0, 1) := by decide +kernel
theorem d_R_why_21 : decode b_R_why 21 = .ok (.goto 7, 3) := by decide +kernel
theorem d_R_why_24 : decode b_R_why 24 = .ok (.aload_n 0, 1) := by decide +kernel
theorem d_R_why_25 : decode b_R_why 25 = .ok (.getfield 158, 3) := by decide +kernel
theorem d_R_why_28 : decode b_R_why 28 = .ok (.ireturn, 1) := by decide +kernel
theorem d_R_whyEvent_0 : decode b_R_whyEvent 0 = .ok (.aload_n 0, 1) := by decide +kernel
theorem d_R_whyEvent_1 : decode b_R_whyEvent 1 = .ok (.aload_n 0, 1) := by decide +kernel
theorem d_R_whyEvent_2 : decode b_R_whyEvent 2 = .ok (.getfield 87, 3) := by decide +kernel
theorem d_R_whyEvent_5 : decode b_R_whyEvent 5 = .ok (.ifCond .ne 7, 3) := by decide +kernel
theorem d_R_whyEvent_8 : decode b_R_whyEvent 8 = .ok (.iconst 1, 1) := by decide +kernel
theorem d_R_whyEvent_9 : decode b_R_whyEvent 9 = .ok (.goto 4, 3) := by decide +kernel
theorem d_R_whyEvent_12 : decode b_R_whyEvent 12 = .ok (.iconst 0, 1) := by decide +kernel
theorem d_R_whyEvent_13 : decode b_R_whyEvent 13 = .ok (.aload_n 0, 1) := by decide +kernel
theorem d_R_whyEvent_14 : decode b_R_whyEvent 14 = .ok (.getfield 87, 3) := by decide +kernel
theorem d_R_whyEvent_17 : decode b_R_whyEvent 17 = .ok (.ifCond .eq 18, 3) := by decide +kernel
theorem d_R_whyEvent_20 : decode b_R_whyEvent 20 = .ok (.iload_n 1, 1) := by decide +kernel
theorem d_R_whyEvent_21 : decode b_R_whyEvent 21 = .ok (.aload_n 0, 1) := by decide +kernel
theorem d_R_whyEvent_22 : decode b_R_whyEvent 22 = .ok (.getfield 158, 3) := by decide +kernel
theorem d_R_whyEvent_25 : decode b_R_whyEvent 25 = .ok (.invokestatic 94, 3) := by decide +kernel
theorem d_R_whyEvent_28 : decode b_R_whyEvent 28 = .ok (.ifCond .eq 7, 3) := by decide +kernel
theorem d_R_whyEvent_31 : decode b_R_whyEvent 31 = .ok (.iconst 1, 1) := by decide +kernel
theorem d_R_whyEvent_32 : decode b_R_whyEvent 32 = .ok (.goto 4, 3) := by decide +kernel
theorem d_R_whyEvent_35 : decode b_R_whyEvent 35 = .ok (.iconst 0, 1) := by decide +kernel
theorem d_R_whyEvent_36 : decode b_R_whyEvent 36 = .ok (.invokevirtual 101, 3) := by decide +kernel
theorem d_R_whyEvent_39 : decode b_R_whyEvent 39 = .ok (.ifCond .eq 7, 3) := by decide +kernel
theorem d_R_whyEvent_42 : decode b_R_whyEvent 42 = .ok (.iconst 0, 1) := by decide +kernel
theorem d_R_whyEvent_43 : decode b_R_whyEvent 43 = .ok (.goto 9, 3) := by decide +kernel
theorem d_R_whyEvent_46 : decode b_R_whyEvent 46 = .ok (.aload_n 0, 1) := by decide +kernel
theorem d_R_whyEvent_47 : decode b_R_whyEvent 47 = .ok (.getfield 74, 3) := by decide +kernel
theorem d_R_whyEvent_50 : decode b_R_whyEvent 50 = .ok (.iload_n 1, 1) := by decide +kernel
theorem d_R_whyEvent_51 : decode b_R_whyEvent 51 = .ok (.iaload, 1) := by decide +kernel
theorem d_R_whyEvent_52 : decode b_R_whyEvent 52 = .ok (.ireturn, 1) := by decide +kernel
