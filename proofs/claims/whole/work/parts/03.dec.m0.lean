theorem dX10_init_0 : decode cX10_init 0 = .ok (.aload_n 0, 1) := by decide +kernel
theorem dX10_init_1 : decode cX10_init 1 = .ok (.invokespecial 1, 3) := by decide +kernel
theorem dX10_init_4 : decode cX10_init 4 = .ok (.aload_n 0, 1) := by decide +kernel
theorem dX10_init_5 : decode cX10_init 5 = .ok (.bipush 108, 2) := by decide +kernel
theorem dX10_init_7 : decode cX10_init 7 = .ok (.newarray .int, 2) := by decide +kernel
theorem dX10_init_9 : decode cX10_init 9 = .ok (.putfield 7, 3) := by decide +kernel
theorem dX10_init_12 : decode cX10_init 12 = .ok (.aload_n 0, 1) := by decide +kernel
theorem dX10_init_13 : decode cX10_init 13 = .ok (.iconst 2, 1) := by decide +kernel
theorem dX10_init_14 : decode cX10_init 14 = .ok (.newarray .boolean, 2) := by decide +kernel
theorem dX10_init_16 : decode cX10_init 16 = .ok (.putfield 13, 3) := by decide +kernel
theorem dX10_init_19 : decode cX10_init 19 = .ok (.aload_n 0, 1) := by decide +kernel
theorem dX10_init_20 : decode cX10_init 20 = .ok (.bipush 20, 2) := by decide +kernel
theorem dX10_init_22 : decode cX10_init 22 = .ok (.newarray .int, 2) := by decide +kernel
theorem dX10_init_24 : decode cX10_init 24 = .ok (.putfield 17, 3) := by decide +kernel
theorem dX10_init_27 : decode cX10_init 27 = .ok (.aload_n 0, 1) := by decide +kernel
theorem dX10_init_28 : decode cX10_init 28 = .ok (.bipush 20, 2) := by decide +kernel
theorem dX10_init_30 : decode cX10_init 30 = .ok (.newarray .int, 2) := by decide +kernel
theorem dX10_init_32 : decode cX10_init 32 = .ok (.putfield 20, 3) := by decide +kernel
theorem dX10_init_35 : decode cX10_init 35 = .ok (.aload_n 0, 1) := by decide +kernel
theorem dX10_init_36 : decode cX10_init 36 = .ok (.bipush 20, 2) := by decide +kernel
theorem dX10_init_38 : decode cX10_init 38 = .ok (.newarray .int, 2) := by decide +kernel
theorem dX10_init_40 : decode cX10_init 40 = .ok (.putfield 23, 3) := by decide +kernel
theorem dX10_init_43 : decode cX10_init 43 = .ok (.aload_n 0, 1) := by decide +kernel
theorem dX10_init_44 : decode cX10_init 44 = .ok (.bipush 20, 2) := by decide +kernel
theorem dX10_init_46 : decode cX10_init 46 = .ok (.newarray .int, 2) := by decide +kernel
theorem dX10_init_48 : decode cX10_init 48 = .ok (.putfield 26, 3) := by decide +kernel
theorem dX10_init_51 : decode cX10_init 51 = .ok (.aload_n 0, 1) := by decide +kernel
theorem dX10_init_52 : decode cX10_init 52 = .ok (.bipush 31, 2) := by decide +kernel
theorem dX10_init_54 : decode cX10_init 54 = .ok (.newarray .int, 2) := by decide +kernel
theorem dX10_init_56 : decode cX10_init 56 = .ok (.putfield 29, 3) := by decide +kernel
theorem dX10_init_59 : decode cX10_init 59 = .ok (.aload_n 0, 1) := by decide +kernel
theorem dX10_init_60 : decode cX10_init 60 = .ok (.iconst 4, 1) := by decide +kernel
theorem dX10_init_61 : decode cX10_init 61 = .ok (.newarray .int, 2) := by decide +kernel
theorem dX10_init_63 : decode cX10_init 63 = .ok (.putfield 32, 3) := by decide +kernel
theorem dX10_init_66 : decode cX10_init 66 = .ok (.aload_n 0, 1) := by decide +kernel
theorem dX10_init_67 : decode cX10_init 67 = .ok (.sipush 320, 3) := by decide +kernel
theorem dX10_init_70 : decode cX10_init 70 = .ok (.newarray .int, 2) := by decide +kernel
theorem dX10_init_72 : decode cX10_init 72 = .ok (.putfield 35, 3) := by decide +kernel
theorem dX10_init_75 : decode cX10_init 75 = .ok (.aload_n 0, 1) := by decide +kernel
theorem dX10_init_76 : decode cX10_init 76 = .ok (.bipush 32, 2) := by decide +kernel
theorem dX10_init_78 : decode cX10_init 78 = .ok (.newarray .int, 2) := by decide +kernel
theorem dX10_init_80 : decode cX10_init 80 = .ok (.putfield 38, 3) := by decide +kernel
theorem dX10_init_83 : decode cX10_init 83 = .ok (.aload_n 0, 1) := by decide +kernel
theorem dX10_init_84 : decode cX10_init 84 = .ok (.bipush 32, 2) := by decide +kernel
theorem dX10_init_86 : decode cX10_init 86 = .ok (.newarray .int, 2) := by decide +kernel
theorem dX10_init_88 : decode cX10_init 88 = .ok (.putfield 41, 3) := by decide +kernel
theorem dX10_init_91 : decode cX10_init 91 = .ok (.aload_n 0, 1) := by decide +kernel
theorem dX10_init_92 : decode cX10_init 92 = .ok (.bipush 32, 2) := by decide +kernel
theorem dX10_init_94 : decode cX10_init 94 = .ok (.newarray .int, 2) := by decide +kernel
theorem dX10_init_96 : decode cX10_init 96 = .ok (.putfield 44, 3) := by decide +kernel
theorem dX10_init_99 : decode cX10_init 99 = .ok (.aload_n 0, 1) := by decide +kernel
theorem dX10_init_100 : decode cX10_init 100 = .ok (.bipush 32, 2) := by decide +kernel
theorem dX10_init_102 : decode cX10_init 102 = .ok (.newarray .int, 2) := by decide +kernel
theorem dX10_init_104 : decode cX10_init 104 = .ok (.putfield 47, 3) := by decide +kernel
theorem dX10_init_107 : decode cX10_init 107 = .ok (.aload_n 0, 1) := by decide +kernel
theorem dX10_init_108 : decode cX10_init 108 = .ok (.bipush 32, 2) := by decide +kernel
theorem dX10_init_110 : decode cX10_init 110 = .ok (.newarray .int, 2) := by decide +kernel
theorem dX10_init_112 : decode cX10_init 112 = .ok (.putfield 50, 3) := by decide +kernel
theorem dX10_init_115 : decode cX10_init 115 = .ok (.aload_n 0, 1) := by decide +kernel
theorem dX10_init_116 : decode cX10_init 116 = .ok (.bipush 31, 2) := by decide +kernel
theorem dX10_init_118 : decode cX10_init 118 = .ok (.newarray .int, 2) := by decide +kernel
theorem dX10_init_120 : decode cX10_init 120 = .ok (.putfield 53, 3) := by decide +kernel
theorem dX10_init_123 : decode cX10_init 123 = .ok (.aload_n 0, 1) := by decide +kernel
theorem dX10_init_124 : decode cX10_init 124 = .ok (.iconst 4, 1) := by decide +kernel
theorem dX10_init_125 : decode cX10_init 125 = .ok (.newarray .int, 2) := by decide +kernel
theorem dX10_init_127 : decode cX10_init 127 = .ok (.putfield 56, 3) := by decide +kernel
theorem dX10_init_130 : decode cX10_init 130 = .ok (.aload_n 0, 1) := by decide +kernel
theorem dX10_init_131 : decode cX10_init 131 = .ok (.sipush 465, 3) := by decide +kernel
theorem dX10_init_134 : decode cX10_init 134 = .ok (.newarray .int, 2) := by decide +kernel
theorem dX10_init_136 : decode cX10_init 136 = .ok (.putfield 59, 3) := by decide +kernel
theorem dX10_init_139 : decode cX10_init 139 = .ok (.aload_n 0, 1) := by decide +kernel
theorem dX10_init_140 : decode cX10_init 140 = .ok (.sipush 4096, 3) := by decide +kernel
theorem dX10_init_143 : decode cX10_init 143 = .ok (.newarray .int, 2) := by decide +kernel
theorem dX10_init_145 : decode cX10_init 145 = .ok (.putfield 62, 3) := by decide +kernel
theorem dX10_init_148 : decode cX10_init 148 = .ok (.aload_n 0, 1) := by decide +kernel
theorem dX10_init_149 : decode cX10_init 149 = .ok (.sipush 4096, 3) := by decide +kernel
theorem dX10_init_152 : decode cX10_init 152 = .ok (.newarray .int, 2) := by decide +kernel
theorem dX10_init_154 : decode cX10_init 154 = .ok (.putfield 65, 3) := by decide +kernel
theorem dX10_init_157 : decode cX10_init 157 = .ok (.aload_n 0, 1) := by decide +kernel
theorem dX10_init_158 : decode cX10_init 158 = .ok (.iconst 4, 1) := by decide +kernel
theorem dX10_init_159 : decode cX10_init 159 = .ok (.newarray .int, 2) := by decide +kernel
theorem dX10_init_161 : decode cX10_init 161 = .ok (.putfield 68, 3) := by decide +kernel
theorem dX10_init_164 : decode cX10_init 164 = .ok (.aload_n 0, 1) := by decide +kernel
theorem dX10_init_165 : decode cX10_init 165 = .ok (.iconst 4, 1) := by decide +kernel
theorem dX10_init_166 : decode cX10_init 166 = .ok (.newarray .int, 2) := by decide +kernel
theorem dX10_init_168 : decode cX10_init 168 = .ok (.putfield 71, 3) := by decide +kernel
theorem dX10_init_171 : decode cX10_init 171 = .ok (.aload_n 0, 1) := by decide +kernel
theorem dX10_init_172 : decode cX10_init 172 = .ok (.sipush 160, 3) := by decide +kernel
theorem dX10_init_175 : decode cX10_init 175 = .ok (.newarray .int, 2) := by decide +kernel
theorem dX10_init_177 : decode cX10_init 177 = .ok (.putfield 74, 3) := by decide +kernel
theorem dX10_init_180 : decode cX10_init 180 = .ok (.iconst 0, 1) := by decide +kernel
theorem dX10_init_181 : decode cX10_init 181 = .ok (.istore_n 1, 1) := by decide +kernel
theorem dX10_init_182 : decode cX10_init 182 = .ok (.iload_n 1, 1) := by decide +kernel
theorem dX10_init_183 : decode cX10_init 183 = .ok (.iconst 4, 1) := by decide +kernel
theorem dX10_init_184 : decode cX10_init 184 = .ok (.if_icmp .ge 17, 3) := by decide +kernel
theorem dX10_init_187 : decode cX10_init 187 = .ok (.aload_n 0, 1) := by decide +kernel
theorem dX10_init_188 : decode cX10_init 188 = .ok (.getfield 68, 3) := by decide +kernel
theorem dX10_init_191 : decode cX10_init 191 = .ok (.iload_n 1, 1) := by decide +kernel
theorem dX10_init_192 : decode cX10_init 192 = .ok (.bipush (-4), 2) := by decide +kernel
theorem dX10_init_194 : decode cX10_init 194 = .ok (.iastore, 1) := by decide +kernel
theorem dX10_init_195 : decode cX10_init 195 = .ok (.iinc 1 1, 3) := by decide +kernel
theorem dX10_init_198 : decode cX10_init 198 = .ok (.goto (-16), 3) := by decide +kernel
theorem dX10_init_201 : decode cX10_init 201 = .ok (.aload_n 0, 1) := by decide +kernel
theorem dX10_init_202 : decode cX10_init 202 = .ok (.invokevirtual 77, 3) := by decide +kernel
theorem dX10_init_205 : decode cX10_init 205 = .ok (.aload_n 0, 1) := by decide +kernel
theorem dX10_init_206 : decode cX10_init 206 = .ok (.invokevirtual 80, 3) := by decide +kernel
theorem dX10_init_209 : decode cX10_init 209 = .ok (.return_, 1) := by decide +kernel
theorem dX10_in_0 : decode cX10_in 0 = .ok (.lload_n 0, 1) := by decide +kernel
theorem dX10_in_1 : decode cX10_in 1 = .ok (.lload_n 2, 1) := by decide +kernel
theorem dX10_in_2 : decode cX10_in 2 = .ok (.lcmp, 1) := by decide +kernel
theorem dX10_in_3 : decode cX10_in 3 = .ok (.ifCond .lt 14, 3) := by decide +kernel
theorem dX10_in_6 : decode cX10_in 6 = .ok (.lload_n 0, 1) := by decide +kernel
theorem dX10_in_7 : decode cX10_in 7 = .ok (.lload 4, 2) := by decide +kernel
theorem dX10_in_9 : decode cX10_in 9 = .ok (.lcmp, 1) := by decide +kernel
theorem dX10_in_10 : decode cX10_in 10 = .ok (.ifCond .gt 7, 3) := by decide +kernel
theorem dX10_in_13 : decode cX10_in 13 = .ok (.iconst 1, 1) := by decide +kernel
theorem dX10_in_14 : decode cX10_in 14 = .ok (.goto 4, 3) := by decide +kernel
theorem dX10_in_17 : decode cX10_in 17 = .ok (.iconst 0, 1) := by decide +kernel
theorem dX10_in_18 : decode cX10_in 18 = .ok (.ireturn, 1) := by decide +kernel
theorem dX10_flag_0 : decode cX10_flag 0 = .ok (.iload_n 0, 1) := by decide +kernel
theorem dX10_flag_1 : decode cX10_flag 1 = .ok (.ifCond .eq 7, 3) := by decide +kernel
theorem dX10_flag_4 : decode cX10_flag 4 = .ok (.iconst 1, 1) := by decide +kernel
theorem dX10_flag_5 : decode cX10_flag 5 = .ok (.goto 4, 3) := by decide +kernel
theorem dX10_flag_8 : decode cX10_flag 8 = .ok (.iconst 0, 1) := by decide +kernel
theorem dX10_flag_9 : decode cX10_flag 9 = .ok (.ireturn, 1) := by decide +kernel
theorem dX10_bitsOf_0 : decode cX10_bitsOf 0 = .ok (.iconst 0, 1) := by decide +kernel
theorem dX10_bitsOf_1 : decode cX10_bitsOf 1 = .ok (.istore_n 1, 1) := by decide +kernel
theorem dX10_bitsOf_2 : decode cX10_bitsOf 2 = .ok (.iconst 0, 1) := by decide +kernel
theorem dX10_bitsOf_3 : decode cX10_bitsOf 3 = .ok (.istore_n 2, 1) := by decide +kernel
theorem dX10_bitsOf_4 : decode cX10_bitsOf 4 = .ok (.iload_n 2, 1) := by decide +kernel
theorem dX10_bitsOf_5 : decode cX10_bitsOf 5 = .ok (.bipush 31, 2) := by decide +kernel
theorem dX10_bitsOf_7 : decode cX10_bitsOf 7 = .ok (.if_icmp .ge 17, 3) := by decide +kernel
theorem dX10_bitsOf_10 : decode cX10_bitsOf 10 = .ok (.iload_n 1, 1) := by decide +kernel
theorem dX10_bitsOf_11 : decode cX10_bitsOf 11 = .ok (.iload_n 0, 1) := by decide +kernel
theorem dX10_bitsOf_12 : decode cX10_bitsOf 12 = .ok (.iload_n 2, 1) := by decide +kernel
theorem dX10_bitsOf_13 : decode cX10_bitsOf 13 = .ok (.ishr, 1) := by decide +kernel
theorem dX10_bitsOf_14 : decode cX10_bitsOf 14 = .ok (.iconst 1, 1) := by decide +kernel
theorem dX10_bitsOf_15 : decode cX10_bitsOf 15 = .ok (.iand, 1) := by decide +kernel
theorem dX10_bitsOf_16 : decode cX10_bitsOf 16 = .ok (.iadd, 1) := by decide +kernel
theorem dX10_bitsOf_17 : decode cX10_bitsOf 17 = .ok (.istore_n 1, 1) := by decide +kernel
theorem dX10_bitsOf_18 : decode cX10_bitsOf 18 = .ok (.iinc 2 1, 3) := by decide +kernel
theorem dX10_bitsOf_21 : decode cX10_bitsOf 21 = .ok (.goto (-17), 3) := by decide +kernel
theorem dX10_bitsOf_24 : decode cX10_bitsOf 24 = .ok (.iload_n 1, 1) := by decide +kernel
theorem dX10_bitsOf_25 : decode cX10_bitsOf 25 = .ok (.ireturn, 1) := by decide +kernel
theorem dX10_firstDraft_0 : decode cX10_firstDraft 0 = .ok (.aload_n 0, 1) := by decide +kernel
theorem dX10_firstDraft_1 : decode cX10_firstDraft 1 = .ok (.iconst 2, 1) := by decide +kernel
theorem dX10_firstDraft_2 : decode cX10_firstDraft 2 = .ok (.putfield 83, 3) := by decide +kernel
theorem dX10_firstDraft_5 : decode cX10_firstDraft 5 = .ok (.aload_n 0, 1) := by decide +kernel
theorem dX10_firstDraft_6 : decode cX10_firstDraft 6 = .ok (.iconst 2, 1) := by decide +kernel
theorem dX10_firstDraft_7 : decode cX10_firstDraft 7 = .ok (.putfield 87, 3) := by decide +kernel
theorem dX10_firstDraft_10 : decode cX10_firstDraft 10 = .ok (.aload_n 0, 1) := by decide +kernel
theorem dX10_firstDraft_11 : decode cX10_firstDraft 11 = .ok (.iconst 0, 1) := by decide +kernel
theorem dX10_firstDraft_12 : decode cX10_firstDraft 12 = .ok (.putfield 90, 3) := by decide +kernel
theorem dX10_firstDraft_15 : decode cX10_firstDraft 15 = .ok (.iconst 0, 1) := by decide +kernel
theorem dX10_firstDraft_16 : decode cX10_firstDraft 16 = .ok (.istore_n 1, 1) := by decide +kernel
theorem dX10_firstDraft_17 : decode cX10_firstDraft 17 = .ok (.iload_n 1, 1) := by decide +kernel
theorem dX10_firstDraft_18 : decode cX10_firstDraft 18 = .ok (.bipush 31, 2) := by decide +kernel
theorem dX10_firstDraft_20 : decode cX10_firstDraft 20 = .ok (.if_icmp .ge 16, 3) := by decide +kernel
theorem dX10_firstDraft_23 : decode cX10_firstDraft 23 = .ok (.aload_n 0, 1) := by decide +kernel
theorem dX10_firstDraft_24 : decode cX10_firstDraft 24 = .ok (.getfield 29, 3) := by decide +kernel
theorem dX10_firstDraft_27 : decode cX10_firstDraft 27 = .ok (.iload_n 1, 1) := by decide +kernel
theorem dX10_firstDraft_28 : decode cX10_firstDraft 28 = .ok (.iconst 0, 1) := by decide +kernel
theorem dX10_firstDraft_29 : decode cX10_firstDraft 29 = .ok (.iastore, 1) := by decide +kernel
theorem dX10_firstDraft_30 : decode cX10_firstDraft 30 = .ok (.iinc 1 1, 3) := by decide +kernel
theorem dX10_firstDraft_33 : decode cX10_firstDraft 33 = .ok (.goto (-16), 3) := by decide +kernel
theorem dX10_firstDraft_36 : decode cX10_firstDraft 36 = .ok (.aload_n 0, 1) := by decide +kernel
theorem dX10_firstDraft_37 : decode cX10_firstDraft 37 = .ok (.iconst 0, 1) := by decide +kernel
theorem dX10_firstDraft_38 : decode cX10_firstDraft 38 = .ok (.putfield 93, 3) := by decide +kernel
theorem dX10_firstDraft_41 : decode cX10_firstDraft 41 = .ok (.iconst 0, 1) := by decide +kernel
theorem dX10_firstDraft_42 : decode cX10_firstDraft 42 = .ok (.istore_n 1, 1) := by decide +kernel
theorem dX10_firstDraft_43 : decode cX10_firstDraft 43 = .ok (.iload_n 1, 1) := by decide +kernel
theorem dX10_firstDraft_44 : decode cX10_firstDraft 44 = .ok (.iconst 3, 1) := by decide +kernel
theorem dX10_firstDraft_45 : decode cX10_firstDraft 45 = .ok (.if_icmp .gt 17, 3) := by decide +kernel
theorem dX10_firstDraft_48 : decode cX10_firstDraft 48 = .ok (.aload_n 0, 1) := by decide +kernel
theorem dX10_firstDraft_49 : decode cX10_firstDraft 49 = .ok (.getfield 32, 3) := by decide +kernel
theorem dX10_firstDraft_52 : decode cX10_firstDraft 52 = .ok (.iload_n 1, 1) := by decide +kernel
theorem dX10_firstDraft_53 : decode cX10_firstDraft 53 = .ok (.bipush (-4), 2) := by decide +kernel
theorem dX10_firstDraft_55 : decode cX10_firstDraft 55 = .ok (.iastore, 1) := by decide +kernel
theorem dX10_firstDraft_56 : decode cX10_firstDraft 56 = .ok (.iinc 1 1, 3) := by decide +kernel
theorem dX10_firstDraft_59 : decode cX10_firstDraft 59 = .ok (.goto (-16), 3) := by decide +kernel
theorem dX10_firstDraft_62 : decode cX10_firstDraft 62 = .ok (.aload_n 0, 1) := by decide +kernel
theorem dX10_firstDraft_63 : decode cX10_firstDraft 63 = .ok (.iconst 0, 1) := by decide +kernel
theorem dX10_firstDraft_64 : decode cX10_firstDraft 64 = .ok (.putfield 96, 3) := by decide +kernel
theorem dX10_firstDraft_67 : decode cX10_firstDraft 67 = .ok (.aload_n 0, 1) := by decide +kernel
theorem dX10_firstDraft_68 : decode cX10_firstDraft 68 = .ok (.bipush (-4), 2) := by decide +kernel
theorem dX10_firstDraft_70 : decode cX10_firstDraft 70 = .ok (.putfield 100, 3) := by decide +kernel
theorem dX10_firstDraft_73 : decode cX10_firstDraft 73 = .ok (.return_, 1) := by decide +kernel
theorem dX10_acrossAt_0 : decode cX10_acrossAt 0 = .ok (.iload_n 1, 1) := by decide +kernel
theorem dX10_acrossAt_1 : decode cX10_acrossAt 1 = .ok (.aload_n 0, 1) := by decide +kernel
theorem dX10_acrossAt_2 : decode cX10_acrossAt 2 = .ok (.getfield 103, 3) := by decide +kernel
theorem dX10_acrossAt_5 : decode cX10_acrossAt 5 = .ok (.imul, 1) := by decide +kernel
theorem dX10_acrossAt_6 : decode cX10_acrossAt 6 = .ok (.iload_n 2, 1) := by decide +kernel
theorem dX10_acrossAt_7 : decode cX10_acrossAt 7 = .ok (.iadd, 1) := by decide +kernel
theorem dX10_acrossAt_8 : decode cX10_acrossAt 8 = .ok (.ireturn, 1) := by decide +kernel
theorem dX10_standsAt_0 : decode cX10_standsAt 0 = .ok (.aload_n 0, 1) := by decide +kernel
theorem dX10_standsAt_1 : decode cX10_standsAt 1 = .ok (.getfield 103, 3) := by decide +kernel
theorem dX10_standsAt_4 : decode cX10_standsAt 4 = .ok (.aload_n 0, 1) := by decide +kernel
theorem dX10_standsAt_5 : decode cX10_standsAt 5 = .ok (.getfield 106, 3) := by decide +kernel
theorem dX10_standsAt_8 : decode cX10_standsAt 8 = .ok (.iconst 1, 1) := by decide +kernel
theorem dX10_standsAt_9 : decode cX10_standsAt 9 = .ok (.iadd, 1) := by decide +kernel
theorem dX10_standsAt_10 : decode cX10_standsAt 10 = .ok (.imul, 1) := by decide +kernel
theorem dX10_standsAt_11 : decode cX10_standsAt 11 = .ok (.iload_n 1, 1) := by decide +kernel
theorem dX10_standsAt_12 : decode cX10_standsAt 12 = .ok (.aload_n 0, 1) := by decide +kernel
theorem dX10_standsAt_13 : decode cX10_standsAt 13 = .ok (.getfield 103, 3) := by decide +kernel
theorem dX10_standsAt_16 : decode cX10_standsAt 16 = .ok (.iconst 1, 1) := by decide +kernel
theorem dX10_standsAt_17 : decode cX10_standsAt 17 = .ok (.iadd, 1) := by decide +kernel
theorem dX10_standsAt_18 : decode cX10_standsAt 18 = .ok (.imul, 1) := by decide +kernel
theorem dX10_standsAt_19 : decode cX10_standsAt 19 = .ok (.iadd, 1) := by decide +kernel
theorem dX10_standsAt_20 : decode cX10_standsAt 20 = .ok (.iload_n 2, 1) := by decide +kernel
theorem dX10_standsAt_21 : decode cX10_standsAt 21 = .ok (.iadd, 1) := by decide +kernel
theorem dX10_standsAt_22 : decode cX10_standsAt 22 = .ok (.ireturn, 1) := by decide +kernel
theorem dX10_rimOf_0 : decode cX10_rimOf 0 = .ok (.iconst 0, 1) := by decide +kernel
theorem dX10_rimOf_1 : decode cX10_rimOf 1 = .ok (.istore 4, 2) := by decide +kernel
theorem dX10_rimOf_3 : decode cX10_rimOf 3 = .ok (.iconst 0, 1) := by decide +kernel
theorem dX10_rimOf_4 : decode cX10_rimOf 4 = .ok (.istore 5, 2) := by decide +kernel
theorem dX10_rimOf_6 : decode cX10_rimOf 6 = .ok (.iload 5, 2) := by decide +kernel
theorem dX10_rimOf_8 : decode cX10_rimOf 8 = .ok (.iload_n 1, 1) := by decide +kernel
theorem dX10_rimOf_9 : decode cX10_rimOf 9 = .ok (.if_icmp .ge 69, 3) := by decide +kernel
theorem dX10_rimOf_12 : decode cX10_rimOf 12 = .ok (.iload 4, 2) := by decide +kernel
theorem dX10_rimOf_14 : decode cX10_rimOf 14 = .ok (.iconst 1, 1) := by decide +kernel
theorem dX10_rimOf_15 : decode cX10_rimOf 15 = .ok (.aload_n 0, 1) := by decide +kernel
theorem dX10_rimOf_16 : decode cX10_rimOf 16 = .ok (.iload_n 2, 1) := by decide +kernel
theorem dX10_rimOf_17 : decode cX10_rimOf 17 = .ok (.iload_n 3, 1) := by decide +kernel
theorem dX10_rimOf_18 : decode cX10_rimOf 18 = .ok (.iload 5, 2) := by decide +kernel
theorem dX10_rimOf_20 : decode cX10_rimOf 20 = .ok (.iadd, 1) := by decide +kernel
theorem dX10_rimOf_21 : decode cX10_rimOf 21 = .ok (.invokevirtual 109, 3) := by decide +kernel
theorem dX10_rimOf_24 : decode cX10_rimOf 24 = .ok (.ishl, 1) := by decide +kernel
theorem dX10_rimOf_25 : decode cX10_rimOf 25 = .ok (.iconst 1, 1) := by decide +kernel
theorem dX10_rimOf_26 : decode cX10_rimOf 26 = .ok (.aload_n 0, 1) := by decide +kernel
theorem dX10_rimOf_27 : decode cX10_rimOf 27 = .ok (.iload_n 2, 1) := by decide +kernel
theorem dX10_rimOf_28 : decode cX10_rimOf 28 = .ok (.iload_n 1, 1) := by decide +kernel
theorem dX10_rimOf_29 : decode cX10_rimOf 29 = .ok (.iadd, 1) := by decide +kernel
theorem dX10_rimOf_30 : decode cX10_rimOf 30 = .ok (.iload_n 3, 1) := by decide +kernel
theorem dX10_rimOf_31 : decode cX10_rimOf 31 = .ok (.iload 5, 2) := by decide +kernel
theorem dX10_rimOf_33 : decode cX10_rimOf 33 = .ok (.iadd, 1) := by decide +kernel
theorem dX10_rimOf_34 : decode cX10_rimOf 34 = .ok (.invokevirtual 109, 3) := by decide +kernel
theorem dX10_rimOf_37 : decode cX10_rimOf 37 = .ok (.ishl, 1) := by decide +kernel
theorem dX10_rimOf_38 : decode cX10_rimOf 38 = .ok (.ior, 1) := by decide +kernel
theorem dX10_rimOf_39 : decode cX10_rimOf 39 = .ok (.ior, 1) := by decide +kernel
theorem dX10_rimOf_40 : decode cX10_rimOf 40 = .ok (.istore 4, 2) := by decide +kernel
theorem dX10_rimOf_42 : decode cX10_rimOf 42 = .ok (.iload 4, 2) := by decide +kernel
theorem dX10_rimOf_44 : decode cX10_rimOf 44 = .ok (.iconst 1, 1) := by decide +kernel
theorem dX10_rimOf_45 : decode cX10_rimOf 45 = .ok (.aload_n 0, 1) := by decide +kernel
theorem dX10_rimOf_46 : decode cX10_rimOf 46 = .ok (.iload_n 2, 1) := by decide +kernel
theorem dX10_rimOf_47 : decode cX10_rimOf 47 = .ok (.iload 5, 2) := by decide +kernel
theorem dX10_rimOf_49 : decode cX10_rimOf 49 = .ok (.iadd, 1) := by decide +kernel
theorem dX10_rimOf_50 : decode cX10_rimOf 50 = .ok (.iload_n 3, 1) := by decide +kernel
theorem dX10_rimOf_51 : decode cX10_rimOf 51 = .ok (.invokevirtual 113, 3) := by decide +kernel
theorem dX10_rimOf_54 : decode cX10_rimOf 54 = .ok (.ishl, 1) := by decide +kernel
theorem dX10_rimOf_55 : decode cX10_rimOf 55 = .ok (.iconst 1, 1) := by decide +kernel
theorem dX10_rimOf_56 : decode cX10_rimOf 56 = .ok (.aload_n 0, 1) := by decide +kernel
theorem dX10_rimOf_57 : decode cX10_rimOf 57 = .ok (.iload_n 2, 1) := by decide +kernel
theorem dX10_rimOf_58 : decode cX10_rimOf 58 = .ok (.iload 5, 2) := by decide +kernel
theorem dX10_rimOf_60 : decode cX10_rimOf 60 = .ok (.iadd, 1) := by decide +kernel
theorem dX10_rimOf_61 : decode cX10_rimOf 61 = .ok (.iload_n 3, 1) := by decide +kernel
theorem dX10_rimOf_62 : decode cX10_rimOf 62 = .ok (.iload_n 1, 1) := by decide +kernel
theorem dX10_rimOf_63 : decode cX10_rimOf 63 = .ok (.iadd, 1) := by decide +kernel
theorem dX10_rimOf_64 : decode cX10_rimOf 64 = .ok (.invokevirtual 113, 3) := by decide +kernel
theorem dX10_rimOf_67 : decode cX10_rimOf 67 = .ok (.ishl, 1) := by decide +kernel
theorem dX10_rimOf_68 : decode cX10_rimOf 68 = .ok (.ior, 1) := by decide +kernel
theorem dX10_rimOf_69 : decode cX10_rimOf 69 = .ok (.ior, 1) := by decide +kernel
theorem dX10_rimOf_70 : decode cX10_rimOf 70 = .ok (.istore 4, 2) := by decide +kernel
theorem dX10_rimOf_72 : decode cX10_rimOf 72 = .ok (.iinc 5 1, 3) := by decide +kernel
theorem dX10_rimOf_75 : decode cX10_rimOf 75 = .ok (.goto (-69), 3) := by decide +kernel
theorem dX10_rimOf_78 : decode cX10_rimOf 78 = .ok (.iload 4, 2) := by decide +kernel
theorem dX10_rimOf_80 : decode cX10_rimOf 80 = .ok (.ireturn, 1) := by decide +kernel
theorem dX10_findSquares_0 : decode cX10_findSquares 0 = .ok (.aload_n 0, 1) := by decide +kernel
theorem dX10_findSquares_1 : decode cX10_findSquares 1 = .ok (.iconst 0, 1) := by decide +kernel
theorem dX10_findSquares_2 : decode cX10_findSquares 2 = .ok (.putfield 116, 3) := by decide +kernel
theorem dX10_findSquares_5 : decode cX10_findSquares 5 = .ok (.iconst 1, 1) := by decide +kernel
theorem dX10_findSquares_6 : decode cX10_findSquares 6 = .ok (.istore_n 1, 1) := by decide +kernel
theorem dX10_findSquares_7 : decode cX10_findSquares 7 = .ok (.iload_n 1, 1) := by decide +kernel
theorem dX10_findSquares_8 : decode cX10_findSquares 8 = .ok (.iconst 3, 1) := by decide +kernel
theorem dX10_findSquares_9 : decode cX10_findSquares 9 = .ok (.if_icmp .gt 101, 3) := by decide +kernel
theorem dX10_findSquares_12 : decode cX10_findSquares 12 = .ok (.iconst 0, 1) := by decide +kernel
theorem dX10_findSquares_13 : decode cX10_findSquares 13 = .ok (.istore_n 2, 1) := by decide +kernel
theorem dX10_findSquares_14 : decode cX10_findSquares 14 = .ok (.iload_n 2, 1) := by decide +kernel
theorem dX10_findSquares_15 : decode cX10_findSquares 15 = .ok (.iload_n 1, 1) := by decide +kernel
theorem dX10_findSquares_16 : decode cX10_findSquares 16 = .ok (.iadd, 1) := by decide +kernel
theorem dX10_findSquares_17 : decode cX10_findSquares 17 = .ok (.aload_n 0, 1) := by decide +kernel
theorem dX10_findSquares_18 : decode cX10_findSquares 18 = .ok (.getfield 106, 3) := by decide +kernel
theorem dX10_findSquares_21 : decode cX10_findSquares 21 = .ok (.if_icmp .gt 83, 3) := by decide +kernel
theorem dX10_findSquares_24 : decode cX10_findSquares 24 = .ok (.iconst 0, 1) := by decide +kernel
theorem dX10_findSquares_25 : decode cX10_findSquares 25 = .ok (.istore_n 3, 1) := by decide +kernel
theorem dX10_findSquares_26 : decode cX10_findSquares 26 = .ok (.iload_n 3, 1) := by decide +kernel
theorem dX10_findSquares_27 : decode cX10_findSquares 27 = .ok (.iload_n 1, 1) := by decide +kernel
theorem dX10_findSquares_28 : decode cX10_findSquares 28 = .ok (.iadd, 1) := by decide +kernel
theorem dX10_findSquares_29 : decode cX10_findSquares 29 = .ok (.aload_n 0, 1) := by decide +kernel
theorem dX10_findSquares_30 : decode cX10_findSquares 30 = .ok (.getfield 103, 3) := by decide +kernel
theorem dX10_findSquares_33 : decode cX10_findSquares 33 = .ok (.if_icmp .gt 65, 3) := by decide +kernel
theorem dX10_findSquares_36 : decode cX10_findSquares 36 = .ok (.aload_n 0, 1) := by decide +kernel
theorem dX10_findSquares_37 : decode cX10_findSquares 37 = .ok (.getfield 17, 3) := by decide +kernel
theorem dX10_findSquares_40 : decode cX10_findSquares 40 = .ok (.aload_n 0, 1) := by decide +kernel
theorem dX10_findSquares_41 : decode cX10_findSquares 41 = .ok (.getfield 116, 3) := by decide +kernel
theorem dX10_findSquares_44 : decode cX10_findSquares 44 = .ok (.iload_n 1, 1) := by decide +kernel
theorem dX10_findSquares_45 : decode cX10_findSquares 45 = .ok (.iastore, 1) := by decide +kernel
theorem dX10_findSquares_46 : decode cX10_findSquares 46 = .ok (.aload_n 0, 1) := by decide +kernel
theorem dX10_findSquares_47 : decode cX10_findSquares 47 = .ok (.getfield 20, 3) := by decide +kernel
theorem dX10_findSquares_50 : decode cX10_findSquares 50 = .ok (.aload_n 0, 1) := by decide +kernel
theorem dX10_findSquares_51 : decode cX10_findSquares 51 = .ok (.getfield 116, 3) := by decide +kernel
theorem dX10_findSquares_54 : decode cX10_findSquares 54 = .ok (.iload_n 2, 1) := by decide +kernel
theorem dX10_findSquares_55 : decode cX10_findSquares 55 = .ok (.iastore, 1) := by decide +kernel
theorem dX10_findSquares_56 : decode cX10_findSquares 56 = .ok (.aload_n 0, 1) := by decide +kernel
theorem dX10_findSquares_57 : decode cX10_findSquares 57 = .ok (.getfield 23, 3) := by decide +kernel
theorem dX10_findSquares_60 : decode cX10_findSquares 60 = .ok (.aload_n 0, 1) := by decide +kernel
theorem dX10_findSquares_61 : decode cX10_findSquares 61 = .ok (.getfield 116, 3) := by decide +kernel
theorem dX10_findSquares_64 : decode cX10_findSquares 64 = .ok (.iload_n 3, 1) := by decide +kernel
theorem dX10_findSquares_65 : decode cX10_findSquares 65 = .ok (.iastore, 1) := by decide +kernel
theorem dX10_findSquares_66 : decode cX10_findSquares 66 = .ok (.aload_n 0, 1) := by decide +kernel
theorem dX10_findSquares_67 : decode cX10_findSquares 67 = .ok (.getfield 26, 3) := by decide +kernel
theorem dX10_findSquares_70 : decode cX10_findSquares 70 = .ok (.aload_n 0, 1) := by decide +kernel
theorem dX10_findSquares_71 : decode cX10_findSquares 71 = .ok (.getfield 116, 3) := by decide +kernel
theorem dX10_findSquares_74 : decode cX10_findSquares 74 = .ok (.aload_n 0, 1) := by decide +kernel
theorem dX10_findSquares_75 : decode cX10_findSquares 75 = .ok (.iload_n 1, 1) := by decide +kernel
theorem dX10_findSquares_76 : decode cX10_findSquares 76 = .ok (.iload_n 2, 1) := by decide +kernel
theorem dX10_findSquares_77 : decode cX10_findSquares 77 = .ok (.iload_n 3, 1) := by decide +kernel
theorem dX10_findSquares_78 : decode cX10_findSquares 78 = .ok (.invokevirtual 119, 3) := by decide +kernel
theorem dX10_findSquares_81 : decode cX10_findSquares 81 = .ok (.iastore, 1) := by decide +kernel
theorem dX10_findSquares_82 : decode cX10_findSquares 82 = .ok (.aload_n 0, 1) := by decide +kernel
theorem dX10_findSquares_83 : decode cX10_findSquares 83 = .ok (.dup, 1) := by decide +kernel
theorem dX10_findSquares_84 : decode cX10_findSquares 84 = .ok (.getfield 116, 3) := by decide +kernel
theorem dX10_findSquares_87 : decode cX10_findSquares 87 = .ok (.iconst 1, 1) := by decide +kernel
theorem dX10_findSquares_88 : decode cX10_findSquares 88 = .ok (.iadd, 1) := by decide +kernel
theorem dX10_findSquares_89 : decode cX10_findSquares 89 = .ok (.putfield 116, 3) := by decide +kernel
theorem dX10_findSquares_92 : decode cX10_findSquares 92 = .ok (.iinc 3 1, 3) := by decide +kernel
theorem dX10_findSquares_95 : decode cX10_findSquares 95 = .ok (.goto (-69), 3) := by decide +kernel
theorem dX10_findSquares_98 : decode cX10_findSquares 98 = .ok (.iinc 2 1, 3) := by decide +kernel
theorem dX10_findSquares_101 : decode cX10_findSquares 101 = .ok (.goto (-87), 3) := by decide +kernel
theorem dX10_findSquares_104 : decode cX10_findSquares 104 = .ok (.iinc 1 1, 3) := by decide +kernel
theorem dX10_findSquares_107 : decode cX10_findSquares 107 = .ok (.goto (-100), 3) := by decide +kernel
theorem dX10_findSquares_110 : decode cX10_findSquares 110 = .ok (.return_, 1) := by decide +kernel
theorem dX10_keepDraft_0 : decode cX10_keepDraft 0 = .ok (.aload_n 0, 1) := by decide +kernel
theorem dX10_keepDraft_1 : decode cX10_keepDraft 1 = .ok (.aload_n 0, 1) := by decide +kernel
theorem dX10_keepDraft_2 : decode cX10_keepDraft 2 = .ok (.getfield 83, 3) := by decide +kernel
theorem dX10_keepDraft_5 : decode cX10_keepDraft 5 = .ok (.putfield 103, 3) := by decide +kernel
theorem dX10_keepDraft_8 : decode cX10_keepDraft 8 = .ok (.aload_n 0, 1) := by decide +kernel
theorem dX10_keepDraft_9 : decode cX10_keepDraft 9 = .ok (.aload_n 0, 1) := by decide +kernel
theorem dX10_keepDraft_10 : decode cX10_keepDraft 10 = .ok (.getfield 87, 3) := by decide +kernel
theorem dX10_keepDraft_13 : decode cX10_keepDraft 13 = .ok (.putfield 106, 3) := by decide +kernel
theorem dX10_keepDraft_16 : decode cX10_keepDraft 16 = .ok (.aload_n 0, 1) := by decide +kernel
theorem dX10_keepDraft_17 : decode cX10_keepDraft 17 = .ok (.aload_n 0, 1) := by decide +kernel
theorem dX10_keepDraft_18 : decode cX10_keepDraft 18 = .ok (.getfield 103, 3) := by decide +kernel
theorem dX10_keepDraft_21 : decode cX10_keepDraft 21 = .ok (.aload_n 0, 1) := by decide +kernel
theorem dX10_keepDraft_22 : decode cX10_keepDraft 22 = .ok (.getfield 106, 3) := by decide +kernel
theorem dX10_keepDraft_25 : decode cX10_keepDraft 25 = .ok (.iconst 1, 1) := by decide +kernel
theorem dX10_keepDraft_26 : decode cX10_keepDraft 26 = .ok (.iadd, 1) := by decide +kernel
theorem dX10_keepDraft_27 : decode cX10_keepDraft 27 = .ok (.imul, 1) := by decide +kernel
theorem dX10_keepDraft_28 : decode cX10_keepDraft 28 = .ok (.aload_n 0, 1) := by decide +kernel
theorem dX10_keepDraft_29 : decode cX10_keepDraft 29 = .ok (.getfield 106, 3) := by decide +kernel
theorem dX10_keepDraft_32 : decode cX10_keepDraft 32 = .ok (.aload_n 0, 1) := by decide +kernel
theorem dX10_keepDraft_33 : decode cX10_keepDraft 33 = .ok (.getfield 103, 3) := by decide +kernel
theorem dX10_keepDraft_36 : decode cX10_keepDraft 36 = .ok (.iconst 1, 1) := by decide +kernel
theorem dX10_keepDraft_37 : decode cX10_keepDraft 37 = .ok (.iadd, 1) := by decide +kernel
theorem dX10_keepDraft_38 : decode cX10_keepDraft 38 = .ok (.imul, 1) := by decide +kernel
theorem dX10_keepDraft_39 : decode cX10_keepDraft 39 = .ok (.iadd, 1) := by decide +kernel
theorem dX10_keepDraft_40 : decode cX10_keepDraft 40 = .ok (.putfield 123, 3) := by decide +kernel
theorem dX10_keepDraft_43 : decode cX10_keepDraft 43 = .ok (.aload_n 0, 1) := by decide +kernel
theorem dX10_keepDraft_44 : decode cX10_keepDraft 44 = .ok (.invokevirtual 126, 3) := by decide +kernel
theorem dX10_keepDraft_47 : decode cX10_keepDraft 47 = .ok (.iconst 0, 1) := by decide +kernel
theorem dX10_keepDraft_48 : decode cX10_keepDraft 48 = .ok (.istore_n 1, 1) := by decide +kernel
theorem dX10_keepDraft_49 : decode cX10_keepDraft 49 = .ok (.iconst 0, 1) := by decide +kernel
theorem dX10_keepDraft_50 : decode cX10_keepDraft 50 = .ok (.istore_n 2, 1) := by decide +kernel
theorem dX10_keepDraft_51 : decode cX10_keepDraft 51 = .ok (.iload_n 2, 1) := by decide +kernel
theorem dX10_keepDraft_52 : decode cX10_keepDraft 52 = .ok (.aload_n 0, 1) := by decide +kernel
theorem dX10_keepDraft_53 : decode cX10_keepDraft 53 = .ok (.getfield 123, 3) := by decide +kernel
theorem dX10_keepDraft_56 : decode cX10_keepDraft 56 = .ok (.if_icmp .ge 15, 3) := by decide +kernel
theorem dX10_keepDraft_59 : decode cX10_keepDraft 59 = .ok (.iload_n 1, 1) := by decide +kernel
theorem dX10_keepDraft_60 : decode cX10_keepDraft 60 = .ok (.iconst 1, 1) := by decide +kernel
theorem dX10_keepDraft_61 : decode cX10_keepDraft 61 = .ok (.iload_n 2, 1) := by decide +kernel
theorem dX10_keepDraft_62 : decode cX10_keepDraft 62 = .ok (.ishl, 1) := by decide +kernel
theorem dX10_keepDraft_63 : decode cX10_keepDraft 63 = .ok (.ior, 1) := by decide +kernel
theorem dX10_keepDraft_64 : decode cX10_keepDraft 64 = .ok (.istore_n 1, 1) := by decide +kernel
theorem dX10_keepDraft_65 : decode cX10_keepDraft 65 = .ok (.iinc 2 1, 3) := by decide +kernel
theorem dX10_keepDraft_68 : decode cX10_keepDraft 68 = .ok (.goto (-17), 3) := by decide +kernel
theorem dX10_keepDraft_71 : decode cX10_keepDraft 71 = .ok (.aload_n 0, 1) := by decide +kernel
theorem dX10_keepDraft_72 : decode cX10_keepDraft 72 = .ok (.getfield 7, 3) := by decide +kernel
theorem dX10_keepDraft_75 : decode cX10_keepDraft 75 = .ok (.iconst 0, 1) := by decide +kernel
theorem dX10_keepDraft_76 : decode cX10_keepDraft 76 = .ok (.iload_n 1, 1) := by decide +kernel
theorem dX10_keepDraft_77 : decode cX10_keepDraft 77 = .ok (.aload_n 0, 1) := by decide +kernel
theorem dX10_keepDraft_78 : decode cX10_keepDraft 78 = .ok (.getfield 90, 3) := by decide +kernel
theorem dX10_keepDraft_81 : decode cX10_keepDraft 81 = .ok (.iconst (-1), 1) := by decide +kernel
theorem dX10_keepDraft_82 : decode cX10_keepDraft 82 = .ok (.ixor, 1) := by decide +kernel
theorem dX10_keepDraft_83 : decode cX10_keepDraft 83 = .ok (.iand, 1) := by decide +kernel
theorem dX10_keepDraft_84 : decode cX10_keepDraft 84 = .ok (.iastore, 1) := by decide +kernel
theorem dX10_keepDraft_85 : decode cX10_keepDraft 85 = .ok (.iconst 0, 1) := by decide +kernel
theorem dX10_keepDraft_86 : decode cX10_keepDraft 86 = .ok (.istore_n 2, 1) := by decide +kernel
theorem dX10_keepDraft_87 : decode cX10_keepDraft 87 = .ok (.iload_n 2, 1) := by decide +kernel
theorem dX10_keepDraft_88 : decode cX10_keepDraft 88 = .ok (.bipush 31, 2) := by decide +kernel
theorem dX10_keepDraft_90 : decode cX10_keepDraft 90 = .ok (.if_icmp .ge 36, 3) := by decide +kernel
theorem dX10_keepDraft_93 : decode cX10_keepDraft 93 = .ok (.aload_n 0, 1) := by decide +kernel
theorem dX10_keepDraft_94 : decode cX10_keepDraft 94 = .ok (.getfield 7, 3) := by decide +kernel
theorem dX10_keepDraft_97 : decode cX10_keepDraft 97 = .ok (.iconst 1, 1) := by decide +kernel
theorem dX10_keepDraft_98 : decode cX10_keepDraft 98 = .ok (.iload_n 2, 1) := by decide +kernel
theorem dX10_keepDraft_99 : decode cX10_keepDraft 99 = .ok (.iadd, 1) := by decide +kernel
theorem dX10_keepDraft_100 : decode cX10_keepDraft 100 = .ok (.aload_n 0, 1) := by decide +kernel
theorem dX10_keepDraft_101 : decode cX10_keepDraft 101 = .ok (.getfield 29, 3) := by decide +kernel
theorem dX10_keepDraft_104 : decode cX10_keepDraft 104 = .ok (.iload_n 2, 1) := by decide +kernel
theorem dX10_keepDraft_105 : decode cX10_keepDraft 105 = .ok (.iaload, 1) := by decide +kernel
theorem dX10_keepDraft_106 : decode cX10_keepDraft 106 = .ok (.ifCond .ne 7, 3) := by decide +kernel
theorem dX10_keepDraft_109 : decode cX10_keepDraft 109 = .ok (.iconst 1, 1) := by decide +kernel
theorem dX10_keepDraft_110 : decode cX10_keepDraft 110 = .ok (.goto 9, 3) := by decide +kernel
theorem dX10_keepDraft_113 : decode cX10_keepDraft 113 = .ok (.aload_n 0, 1) := by decide +kernel
theorem dX10_keepDraft_114 : decode cX10_keepDraft 114 = .ok (.getfield 29, 3) := by decide +kernel
theorem dX10_keepDraft_117 : decode cX10_keepDraft 117 = .ok (.iload_n 2, 1) := by decide +kernel
theorem dX10_keepDraft_118 : decode cX10_keepDraft 118 = .ok (.iaload, 1) := by decide +kernel
theorem dX10_keepDraft_119 : decode cX10_keepDraft 119 = .ok (.iastore, 1) := by decide +kernel
theorem dX10_keepDraft_120 : decode cX10_keepDraft 120 = .ok (.iinc 2 1, 3) := by decide +kernel
theorem dX10_keepDraft_123 : decode cX10_keepDraft 123 = .ok (.goto (-36), 3) := by decide +kernel
theorem dX10_keepDraft_126 : decode cX10_keepDraft 126 = .ok (.aload_n 0, 1) := by decide +kernel
theorem dX10_keepDraft_127 : decode cX10_keepDraft 127 = .ok (.getfield 7, 3) := by decide +kernel
theorem dX10_keepDraft_130 : decode cX10_keepDraft 130 = .ok (.bipush 32, 2) := by decide +kernel
theorem dX10_keepDraft_132 : decode cX10_keepDraft 132 = .ok (.aload_n 0, 1) := by decide +kernel
theorem dX10_keepDraft_133 : decode cX10_keepDraft 133 = .ok (.getfield 93, 3) := by decide +kernel
theorem dX10_keepDraft_136 : decode cX10_keepDraft 136 = .ok (.ifCond .ne 8, 3) := by decide +kernel
theorem dX10_keepDraft_139 : decode cX10_keepDraft 139 = .ok (.bipush 14, 2) := by decide +kernel
theorem dX10_keepDraft_141 : decode cX10_keepDraft 141 = .ok (.goto 7, 3) := by decide +kernel
theorem dX10_keepDraft_144 : decode cX10_keepDraft 144 = .ok (.aload_n 0, 1) := by decide +kernel
theorem dX10_keepDraft_145 : decode cX10_keepDraft 145 = .ok (.getfield 93, 3) := by decide +kernel
theorem dX10_keepDraft_148 : decode cX10_keepDraft 148 = .ok (.iastore, 1) := by decide +kernel
theorem dX10_keepDraft_149 : decode cX10_keepDraft 149 = .ok (.iconst 1, 1) := by decide +kernel
theorem dX10_keepDraft_150 : decode cX10_keepDraft 150 = .ok (.istore_n 2, 1) := by decide +kernel
theorem dX10_keepDraft_151 : decode cX10_keepDraft 151 = .ok (.iload_n 2, 1) := by decide +kernel
theorem dX10_keepDraft_152 : decode cX10_keepDraft 152 = .ok (.iconst 3, 1) := by decide +kernel
theorem dX10_keepDraft_153 : decode cX10_keepDraft 153 = .ok (.if_icmp .gt 24, 3) := by decide +kernel
theorem dX10_keepDraft_156 : decode cX10_keepDraft 156 = .ok (.aload_n 0, 1) := by decide +kernel
theorem dX10_keepDraft_157 : decode cX10_keepDraft 157 = .ok (.getfield 7, 3) := by decide +kernel
theorem dX10_keepDraft_160 : decode cX10_keepDraft 160 = .ok (.bipush 32, 2) := by decide +kernel
theorem dX10_keepDraft_162 : decode cX10_keepDraft 162 = .ok (.iload_n 2, 1) := by decide +kernel
theorem dX10_keepDraft_163 : decode cX10_keepDraft 163 = .ok (.iadd, 1) := by decide +kernel
theorem dX10_keepDraft_164 : decode cX10_keepDraft 164 = .ok (.aload_n 0, 1) := by decide +kernel
theorem dX10_keepDraft_165 : decode cX10_keepDraft 165 = .ok (.getfield 32, 3) := by decide +kernel
theorem dX10_keepDraft_168 : decode cX10_keepDraft 168 = .ok (.iload_n 2, 1) := by decide +kernel
theorem dX10_keepDraft_169 : decode cX10_keepDraft 169 = .ok (.iaload, 1) := by decide +kernel
theorem dX10_keepDraft_170 : decode cX10_keepDraft 170 = .ok (.iastore, 1) := by decide +kernel
theorem dX10_keepDraft_171 : decode cX10_keepDraft 171 = .ok (.iinc 2 1, 3) := by decide +kernel
theorem dX10_keepDraft_174 : decode cX10_keepDraft 174 = .ok (.goto (-23), 3) := by decide +kernel
theorem dX10_keepDraft_177 : decode cX10_keepDraft 177 = .ok (.aload_n 0, 1) := by decide +kernel
theorem dX10_keepDraft_178 : decode cX10_keepDraft 178 = .ok (.getfield 13, 3) := by decide +kernel
theorem dX10_keepDraft_181 : decode cX10_keepDraft 181 = .ok (.iconst 0, 1) := by decide +kernel
theorem dX10_keepDraft_182 : decode cX10_keepDraft 182 = .ok (.iconst 0, 1) := by decide +kernel
theorem dX10_keepDraft_183 : decode cX10_keepDraft 183 = .ok (.bastore, 1) := by decide +kernel
theorem dX10_keepDraft_184 : decode cX10_keepDraft 184 = .ok (.aload_n 0, 1) := by decide +kernel
theorem dX10_keepDraft_185 : decode cX10_keepDraft 185 = .ok (.getfield 13, 3) := by decide +kernel
theorem dX10_keepDraft_188 : decode cX10_keepDraft 188 = .ok (.iconst 1, 1) := by decide +kernel
theorem dX10_keepDraft_189 : decode cX10_keepDraft 189 = .ok (.iconst 0, 1) := by decide +kernel
theorem dX10_keepDraft_190 : decode cX10_keepDraft 190 = .ok (.bastore, 1) := by decide +kernel
theorem dX10_keepDraft_191 : decode cX10_keepDraft 191 = .ok (.return_, 1) := by decide +kernel
theorem dX10_feed_0 : decode cX10_feed 0 = .ok (.aload_n 0, 1) := by decide +kernel
theorem dX10_feed_1 : decode cX10_feed 1 = .ok (.getfield 129, 3) := by decide +kernel
theorem dX10_feed_4 : decode cX10_feed 4 = .ok (.bipush 8, 2) := by decide +kernel
theorem dX10_feed_6 : decode cX10_feed 6 = .ok (.iadd, 1) := by decide +kernel
theorem dX10_feed_7 : decode cX10_feed 7 = .ok (.sipush 320, 3) := by decide +kernel
theorem dX10_feed_10 : decode cX10_feed 10 = .ok (.if_icmp .le 6, 3) := by decide +kernel
theorem dX10_feed_13 : decode cX10_feed 13 = .ok (.bipush (-3), 2) := by decide +kernel
theorem dX10_feed_15 : decode cX10_feed 15 = .ok (.ireturn, 1) := by decide +kernel
theorem dX10_feed_16 : decode cX10_feed 16 = .ok (.bipush 56, 2) := by decide +kernel
theorem dX10_feed_18 : decode cX10_feed 18 = .ok (.istore_n 3, 1) := by decide +kernel
theorem dX10_feed_19 : decode cX10_feed 19 = .ok (.iload_n 3, 1) := by decide +kernel
theorem dX10_feed_20 : decode cX10_feed 20 = .ok (.ifCond .lt 36, 3) := by decide +kernel
theorem dX10_feed_23 : decode cX10_feed 23 = .ok (.aload_n 0, 1) := by decide +kernel
theorem dX10_feed_24 : decode cX10_feed 24 = .ok (.getfield 35, 3) := by decide +kernel
theorem dX10_feed_27 : decode cX10_feed 27 = .ok (.aload_n 0, 1) := by decide +kernel
theorem dX10_feed_28 : decode cX10_feed 28 = .ok (.getfield 129, 3) := by decide +kernel
theorem dX10_feed_31 : decode cX10_feed 31 = .ok (.lload_n 1, 1) := by decide +kernel
theorem dX10_feed_32 : decode cX10_feed 32 = .ok (.iload_n 3, 1) := by decide +kernel
theorem dX10_feed_33 : decode cX10_feed 33 = .ok (.lshr, 1) := by decide +kernel
theorem dX10_feed_34 : decode cX10_feed 34 = .ok (.ldc2_w 132, 3) := by decide +kernel
theorem dX10_feed_37 : decode cX10_feed 37 = .ok (.land, 1) := by decide +kernel
theorem dX10_feed_38 : decode cX10_feed 38 = .ok (.l2i, 1) := by decide +kernel
theorem dX10_feed_39 : decode cX10_feed 39 = .ok (.iastore, 1) := by decide +kernel
theorem dX10_feed_40 : decode cX10_feed 40 = .ok (.aload_n 0, 1) := by decide +kernel
theorem dX10_feed_41 : decode cX10_feed 41 = .ok (.dup, 1) := by decide +kernel
theorem dX10_feed_42 : decode cX10_feed 42 = .ok (.getfield 129, 3) := by decide +kernel
theorem dX10_feed_45 : decode cX10_feed 45 = .ok (.iconst 1, 1) := by decide +kernel
theorem dX10_feed_46 : decode cX10_feed 46 = .ok (.iadd, 1) := by decide +kernel
theorem dX10_feed_47 : decode cX10_feed 47 = .ok (.putfield 129, 3) := by decide +kernel
theorem dX10_feed_50 : decode cX10_feed 50 = .ok (.iinc 3 (-8), 3) := by decide +kernel
theorem dX10_feed_53 : decode cX10_feed 53 = .ok (.goto (-34), 3) := by decide +kernel
theorem dX10_feed_56 : decode cX10_feed 56 = .ok (.aload_n 0, 1) := by decide +kernel
theorem dX10_feed_57 : decode cX10_feed 57 = .ok (.getfield 129, 3) := by decide +kernel
theorem dX10_feed_60 : decode cX10_feed 60 = .ok (.ireturn, 1) := by decide +kernel
theorem dX10_end_0 : decode cX10_end 0 = .ok (.iload_n 1, 1) := by decide +kernel
theorem dX10_end_1 : decode cX10_end 1 = .ok (.i2l, 1) := by decide +kernel
theorem dX10_end_2 : decode cX10_end 2 = .ok (.lconst 0, 1) := by decide +kernel
theorem dX10_end_3 : decode cX10_end 3 = .ok (.aload_n 0, 1) := by decide +kernel
theorem dX10_end_4 : decode cX10_end 4 = .ok (.getfield 129, 3) := by decide +kernel
theorem dX10_end_7 : decode cX10_end 7 = .ok (.i2l, 1) := by decide +kernel
theorem dX10_end_8 : decode cX10_end 8 = .ok (.invokestatic 134, 3) := by decide +kernel
theorem dX10_end_11 : decode cX10_end 11 = .ok (.ifCond .ne 5, 3) := by decide +kernel
theorem dX10_end_14 : decode cX10_end 14 = .ok (.iconst (-1), 1) := by decide +kernel
theorem dX10_end_15 : decode cX10_end 15 = .ok (.ireturn, 1) := by decide +kernel
theorem dX10_end_16 : decode cX10_end 16 = .ok (.aload_n 0, 1) := by decide +kernel
theorem dX10_end_17 : decode cX10_end 17 = .ok (.getfield 129, 3) := by decide +kernel
theorem dX10_end_20 : decode cX10_end 20 = .ok (.istore_n 2, 1) := by decide +kernel
theorem dX10_end_21 : decode cX10_end 21 = .ok (.aload_n 0, 1) := by decide +kernel
theorem dX10_end_22 : decode cX10_end 22 = .ok (.iload_n 1, 1) := by decide +kernel
theorem dX10_end_23 : decode cX10_end 23 = .ok (.putfield 129, 3) := by decide +kernel
theorem dX10_end_26 : decode cX10_end 26 = .ok (.iload_n 2, 1) := by decide +kernel
theorem dX10_end_27 : decode cX10_end 27 = .ok (.ireturn, 1) := by decide +kernel
theorem dX10_needs_0 : decode cX10_needs 0 = .ok (.iload_n 1, 1) := by decide +kernel
theorem dX10_needs_1 : decode cX10_needs 1 = .ok (.ifCond .ne 23, 3) := by decide +kernel
theorem dX10_needs_4 : decode cX10_needs 4 = .ok (.aload_n 0, 1) := by decide +kernel
theorem dX10_needs_5 : decode cX10_needs 5 = .ok (.getfield 138, 3) := by decide +kernel
theorem dX10_needs_8 : decode cX10_needs 8 = .ok (.ifCond .ne 16, 3) := by decide +kernel
theorem dX10_needs_11 : decode cX10_needs 11 = .ok (.aload_n 0, 1) := by decide +kernel
theorem dX10_needs_12 : decode cX10_needs 12 = .ok (.iload_n 2, 1) := by decide +kernel
theorem dX10_needs_13 : decode cX10_needs 13 = .ok (.putfield 138, 3) := by decide +kernel
theorem dX10_needs_16 : decode cX10_needs 16 = .ok (.aload_n 0, 1) := by decide +kernel
theorem dX10_needs_17 : decode cX10_needs 17 = .ok (.aload_n 0, 1) := by decide +kernel
theorem dX10_needs_18 : decode cX10_needs 18 = .ok (.getfield 141, 3) := by decide +kernel
theorem dX10_needs_21 : decode cX10_needs 21 = .ok (.putfield 144, 3) := by decide +kernel
theorem dX10_needs_24 : decode cX10_needs 24 = .ok (.return_, 1) := by decide +kernel
theorem dX10_look_0 : decode cX10_look 0 = .ok (.iload_n 1, 1) := by decide +kernel
theorem dX10_look_1 : decode cX10_look 1 = .ok (.aload_n 0, 1) := by decide +kernel
theorem dX10_look_2 : decode cX10_look 2 = .ok (.getfield 129, 3) := by decide +kernel
theorem dX10_look_5 : decode cX10_look 5 = .ok (.if_icmp .ge 12, 3) := by decide +kernel
theorem dX10_look_8 : decode cX10_look 8 = .ok (.aload_n 0, 1) := by decide +kernel
theorem dX10_look_9 : decode cX10_look 9 = .ok (.getfield 35, 3) := by decide +kernel
theorem dX10_look_12 : decode cX10_look 12 = .ok (.iload_n 1, 1) := by decide +kernel
theorem dX10_look_13 : decode cX10_look 13 = .ok (.iaload, 1) := by decide +kernel
theorem dX10_look_14 : decode cX10_look 14 = .ok (.goto 4, 3) := by decide +kernel
theorem dX10_look_17 : decode cX10_look 17 = .ok (.iconst (-1), 1) := by decide +kernel
theorem dX10_look_18 : decode cX10_look 18 = .ok (.ireturn, 1) := by decide +kernel
theorem dX10_is_0 : decode cX10_is 0 = .ok (.aload_n 0, 1) := by decide +kernel
theorem dX10_is_1 : decode cX10_is 1 = .ok (.getfield 147, 3) := by decide +kernel
theorem dX10_is_4 : decode cX10_is 4 = .ok (.aload_n 0, 1) := by decide +kernel
theorem dX10_is_5 : decode cX10_is 5 = .ok (.getfield 141, 3) := by decide +kernel
theorem dX10_is_8 : decode cX10_is 8 = .ok (.isub, 1) := by decide +kernel
theorem dX10_is_9 : decode cX10_is 9 = .ok (.iconst 4, 1) := by decide +kernel
theorem dX10_is_10 : decode cX10_is 10 = .ok (.if_icmp .ne 62, 3) := by decide +kernel
theorem dX10_is_13 : decode cX10_is 13 = .ok (.aload_n 0, 1) := by decide +kernel
theorem dX10_is_14 : decode cX10_is 14 = .ok (.aload_n 0, 1) := by decide +kernel
theorem dX10_is_15 : decode cX10_is 15 = .ok (.getfield 141, 3) := by decide +kernel
theorem dX10_is_18 : decode cX10_is 18 = .ok (.invokevirtual 150, 3) := by decide +kernel
theorem dX10_is_21 : decode cX10_is 21 = .ok (.iload_n 1, 1) := by decide +kernel
theorem dX10_is_22 : decode cX10_is 22 = .ok (.if_icmp .ne 50, 3) := by decide +kernel
theorem dX10_is_25 : decode cX10_is 25 = .ok (.aload_n 0, 1) := by decide +kernel
theorem dX10_is_26 : decode cX10_is 26 = .ok (.aload_n 0, 1) := by decide +kernel
theorem dX10_is_27 : decode cX10_is 27 = .ok (.getfield 141, 3) := by decide +kernel
theorem dX10_is_30 : decode cX10_is 30 = .ok (.iconst 1, 1) := by decide +kernel
theorem dX10_is_31 : decode cX10_is 31 = .ok (.iadd, 1) := by decide +kernel
theorem dX10_is_32 : decode cX10_is 32 = .ok (.invokevirtual 150, 3) := by decide +kernel
theorem dX10_is_35 : decode cX10_is 35 = .ok (.iload_n 2, 1) := by decide +kernel
theorem dX10_is_36 : decode cX10_is 36 = .ok (.if_icmp .ne 36, 3) := by decide +kernel
theorem dX10_is_39 : decode cX10_is 39 = .ok (.aload_n 0, 1) := by decide +kernel
theorem dX10_is_40 : decode cX10_is 40 = .ok (.aload_n 0, 1) := by decide +kernel
theorem dX10_is_41 : decode cX10_is 41 = .ok (.getfield 141, 3) := by decide +kernel
theorem dX10_is_44 : decode cX10_is 44 = .ok (.iconst 2, 1) := by decide +kernel
theorem dX10_is_45 : decode cX10_is 45 = .ok (.iadd, 1) := by decide +kernel
theorem dX10_is_46 : decode cX10_is 46 = .ok (.invokevirtual 150, 3) := by decide +kernel
theorem dX10_is_49 : decode cX10_is 49 = .ok (.iload_n 3, 1) := by decide +kernel
theorem dX10_is_50 : decode cX10_is 50 = .ok (.if_icmp .ne 22, 3) := by decide +kernel
theorem dX10_is_53 : decode cX10_is 53 = .ok (.aload_n 0, 1) := by decide +kernel
theorem dX10_is_54 : decode cX10_is 54 = .ok (.aload_n 0, 1) := by decide +kernel
theorem dX10_is_55 : decode cX10_is 55 = .ok (.getfield 141, 3) := by decide +kernel
theorem dX10_is_58 : decode cX10_is 58 = .ok (.iconst 3, 1) := by decide +kernel
theorem dX10_is_59 : decode cX10_is 59 = .ok (.iadd, 1) := by decide +kernel
theorem dX10_is_60 : decode cX10_is 60 = .ok (.invokevirtual 150, 3) := by decide +kernel
theorem dX10_is_63 : decode cX10_is 63 = .ok (.iload 4, 2) := by decide +kernel
theorem dX10_is_65 : decode cX10_is 65 = .ok (.if_icmp .ne 7, 3) := by decide +kernel
theorem dX10_is_68 : decode cX10_is 68 = .ok (.iconst 1, 1) := by decide +kernel
theorem dX10_is_69 : decode cX10_is 69 = .ok (.goto 4, 3) := by decide +kernel
theorem dX10_is_72 : decode cX10_is 72 = .ok (.iconst 0, 1) := by decide +kernel
theorem dX10_is_73 : decode cX10_is 73 = .ok (.ireturn, 1) := by decide +kernel
theorem dX10_lineNow_0 : decode cX10_lineNow 0 = .ok (.aload_n 0, 1) := by decide +kernel
theorem dX10_lineNow_1 : decode cX10_lineNow 1 = .ok (.bipush 103, 2) := by decide +kernel
theorem dX10_lineNow_3 : decode cX10_lineNow 3 = .ok (.bipush 114, 2) := by decide +kernel
theorem dX10_lineNow_5 : decode cX10_lineNow 5 = .ok (.bipush 105, 2) := by decide +kernel
theorem dX10_lineNow_7 : decode cX10_lineNow 7 = .ok (.bipush 100, 2) := by decide +kernel
theorem dX10_lineNow_9 : decode cX10_lineNow 9 = .ok (.invokevirtual 154, 3) := by decide +kernel
theorem dX10_lineNow_12 : decode cX10_lineNow 12 = .ok (.ifCond .eq 5, 3) := by decide +kernel
theorem dX10_lineNow_15 : decode cX10_lineNow 15 = .ok (.iconst 0, 1) := by decide +kernel
theorem dX10_lineNow_16 : decode cX10_lineNow 16 = .ok (.ireturn, 1) := by decide +kernel
theorem dX10_lineNow_17 : decode cX10_lineNow 17 = .ok (.aload_n 0, 1) := by decide +kernel
theorem dX10_lineNow_18 : decode cX10_lineNow 18 = .ok (.bipush 103, 2) := by decide +kernel
theorem dX10_lineNow_20 : decode cX10_lineNow 20 = .ok (.bipush 111, 2) := by decide +kernel
theorem dX10_lineNow_22 : decode cX10_lineNow 22 = .ok (.bipush 110, 2) := by decide +kernel
theorem dX10_lineNow_24 : decode cX10_lineNow 24 = .ok (.bipush 101, 2) := by decide +kernel
theorem dX10_lineNow_26 : decode cX10_lineNow 26 = .ok (.invokevirtual 154, 3) := by decide +kernel
theorem dX10_lineNow_29 : decode cX10_lineNow 29 = .ok (.ifCond .eq 5, 3) := by decide +kernel
theorem dX10_lineNow_32 : decode cX10_lineNow 32 = .ok (.iconst 1, 1) := by decide +kernel
theorem dX10_lineNow_33 : decode cX10_lineNow 33 = .ok (.ireturn, 1) := by decide +kernel
theorem dX10_lineNow_34 : decode cX10_lineNow 34 = .ok (.aload_n 0, 1) := by decide +kernel
theorem dX10_lineNow_35 : decode cX10_lineNow 35 = .ok (.bipush 99, 2) := by decide +kernel
theorem dX10_lineNow_37 : decode cX10_lineNow 37 = .ok (.bipush 111, 2) := by decide +kernel
theorem dX10_lineNow_39 : decode cX10_lineNow 39 = .ok (.bipush 115, 2) := by decide +kernel
theorem dX10_lineNow_41 : decode cX10_lineNow 41 = .ok (.bipush 116, 2) := by decide +kernel
theorem dX10_lineNow_43 : decode cX10_lineNow 43 = .ok (.invokevirtual 154, 3) := by decide +kernel
theorem dX10_lineNow_46 : decode cX10_lineNow 46 = .ok (.ifCond .eq 5, 3) := by decide +kernel
theorem dX10_lineNow_49 : decode cX10_lineNow 49 = .ok (.iconst 2, 1) := by decide +kernel
theorem dX10_lineNow_50 : decode cX10_lineNow 50 = .ok (.ireturn, 1) := by decide +kernel
theorem dX10_lineNow_51 : decode cX10_lineNow 51 = .ok (.aload_n 0, 1) := by decide +kernel
theorem dX10_lineNow_52 : decode cX10_lineNow 52 = .ok (.bipush 115, 2) := by decide +kernel
theorem dX10_lineNow_54 : decode cX10_lineNow 54 = .ok (.bipush 105, 2) := by decide +kernel
theorem dX10_lineNow_56 : decode cX10_lineNow 56 = .ok (.bipush 122, 2) := by decide +kernel
theorem dX10_lineNow_58 : decode cX10_lineNow 58 = .ok (.bipush 101, 2) := by decide +kernel
theorem dX10_lineNow_60 : decode cX10_lineNow 60 = .ok (.invokevirtual 154, 3) := by decide +kernel
theorem dX10_lineNow_63 : decode cX10_lineNow 63 = .ok (.ifCond .eq 7, 3) := by decide +kernel
theorem dX10_lineNow_66 : decode cX10_lineNow 66 = .ok (.iconst 3, 1) := by decide +kernel
theorem dX10_lineNow_67 : decode cX10_lineNow 67 = .ok (.goto 24, 3) := by decide +kernel
theorem dX10_lineNow_70 : decode cX10_lineNow 70 = .ok (.aload_n 0, 1) := by decide +kernel
theorem dX10_lineNow_71 : decode cX10_lineNow 71 = .ok (.bipush 115, 2) := by decide +kernel
theorem dX10_lineNow_73 : decode cX10_lineNow 73 = .ok (.bipush 101, 2) := by decide +kernel
theorem dX10_lineNow_75 : decode cX10_lineNow 75 = .ok (.bipush 101, 2) := by decide +kernel
theorem dX10_lineNow_77 : decode cX10_lineNow 77 = .ok (.bipush 110, 2) := by decide +kernel
theorem dX10_lineNow_79 : decode cX10_lineNow 79 = .ok (.invokevirtual 154, 3) := by decide +kernel
theorem dX10_lineNow_82 : decode cX10_lineNow 82 = .ok (.ifCond .eq 7, 3) := by decide +kernel
theorem dX10_lineNow_85 : decode cX10_lineNow 85 = .ok (.iconst 4, 1) := by decide +kernel
theorem dX10_lineNow_86 : decode cX10_lineNow 86 = .ok (.goto 5, 3) := by decide +kernel
theorem dX10_lineNow_89 : decode cX10_lineNow 89 = .ok (.bipush (-4), 2) := by decide +kernel
theorem dX10_lineNow_91 : decode cX10_lineNow 91 = .ok (.ireturn, 1) := by decide +kernel
theorem dX10_next_0 : decode cX10_next 0 = .ok (.aload_n 0, 1) := by decide +kernel
theorem dX10_next_1 : decode cX10_next 1 = .ok (.getfield 138, 3) := by decide +kernel
theorem dX10_next_4 : decode cX10_next 4 = .ok (.ifCond .le 4, 3) := by decide +kernel
theorem dX10_next_7 : decode cX10_next 7 = .ok (.return_, 1) := by decide +kernel
theorem dX10_next_8 : decode cX10_next 8 = .ok (.aload_n 0, 1) := by decide +kernel
theorem dX10_next_9 : decode cX10_next 9 = .ok (.aload_n 0, 1) := by decide +kernel
theorem dX10_next_10 : decode cX10_next 10 = .ok (.getfield 147, 3) := by decide +kernel
theorem dX10_next_13 : decode cX10_next 13 = .ok (.invokevirtual 150, 3) := by decide +kernel
theorem dX10_next_16 : decode cX10_next 16 = .ok (.bipush 32, 2) := by decide +kernel
theorem dX10_next_18 : decode cX10_next 18 = .ok (.if_icmp .ne 16, 3) := by decide +kernel
theorem dX10_next_21 : decode cX10_next 21 = .ok (.aload_n 0, 1) := by decide +kernel
theorem dX10_next_22 : decode cX10_next 22 = .ok (.dup, 1) := by decide +kernel
theorem dX10_next_23 : decode cX10_next 23 = .ok (.getfield 147, 3) := by decide +kernel
theorem dX10_next_26 : decode cX10_next 26 = .ok (.iconst 1, 1) := by decide +kernel
theorem dX10_next_27 : decode cX10_next 27 = .ok (.iadd, 1) := by decide +kernel
theorem dX10_next_28 : decode cX10_next 28 = .ok (.putfield 147, 3) := by decide +kernel
theorem dX10_next_31 : decode cX10_next 31 = .ok (.goto (-23), 3) := by decide +kernel
theorem dX10_next_34 : decode cX10_next 34 = .ok (.aload_n 0, 1) := by decide +kernel
theorem dX10_next_35 : decode cX10_next 35 = .ok (.aload_n 0, 1) := by decide +kernel
theorem dX10_next_36 : decode cX10_next 36 = .ok (.getfield 147, 3) := by decide +kernel
theorem dX10_next_39 : decode cX10_next 39 = .ok (.putfield 141, 3) := by decide +kernel
theorem dX10_next_42 : decode cX10_next 42 = .ok (.aload_n 0, 1) := by decide +kernel
theorem dX10_next_43 : decode cX10_next 43 = .ok (.aload_n 0, 1) := by decide +kernel
theorem dX10_next_44 : decode cX10_next 44 = .ok (.getfield 147, 3) := by decide +kernel
theorem dX10_next_47 : decode cX10_next 47 = .ok (.invokevirtual 150, 3) := by decide +kernel
theorem dX10_next_50 : decode cX10_next 50 = .ok (.istore_n 1, 1) := by decide +kernel
theorem dX10_next_51 : decode cX10_next 51 = .ok (.iload_n 1, 1) := by decide +kernel
theorem dX10_next_52 : decode cX10_next 52 = .ok (.ifCond .ge 11, 3) := by decide +kernel
theorem dX10_next_55 : decode cX10_next 55 = .ok (.aload_n 0, 1) := by decide +kernel
theorem dX10_next_56 : decode cX10_next 56 = .ok (.iconst 0, 1) := by decide +kernel
theorem dX10_next_57 : decode cX10_next 57 = .ok (.putfield 158, 3) := by decide +kernel
theorem dX10_next_60 : decode cX10_next 60 = .ok (.goto 214, 3) := by decide +kernel
theorem dX10_next_63 : decode cX10_next 63 = .ok (.iload_n 1, 1) := by decide +kernel
theorem dX10_next_64 : decode cX10_next 64 = .ok (.i2l, 1) := by decide +kernel
theorem dX10_next_65 : decode cX10_next 65 = .ok (.ldc2_w 161, 3) := by decide +kernel
theorem dX10_next_68 : decode cX10_next 68 = .ok (.ldc2_w 163, 3) := by decide +kernel
theorem dX10_next_71 : decode cX10_next 71 = .ok (.invokestatic 134, 3) := by decide +kernel
theorem dX10_next_74 : decode cX10_next 74 = .ok (.ifCond .eq 42, 3) := by decide +kernel
theorem dX10_next_77 : decode cX10_next 77 = .ok (.aload_n 0, 1) := by decide +kernel
theorem dX10_next_78 : decode cX10_next 78 = .ok (.iconst 1, 1) := by decide +kernel
theorem dX10_next_79 : decode cX10_next 79 = .ok (.putfield 158, 3) := by decide +kernel
theorem dX10_next_82 : decode cX10_next 82 = .ok (.aload_n 0, 1) := by decide +kernel
theorem dX10_next_83 : decode cX10_next 83 = .ok (.aload_n 0, 1) := by decide +kernel
theorem dX10_next_84 : decode cX10_next 84 = .ok (.getfield 147, 3) := by decide +kernel
theorem dX10_next_87 : decode cX10_next 87 = .ok (.invokevirtual 150, 3) := by decide +kernel
theorem dX10_next_90 : decode cX10_next 90 = .ok (.i2l, 1) := by decide +kernel
theorem dX10_next_91 : decode cX10_next 91 = .ok (.ldc2_w 161, 3) := by decide +kernel
theorem dX10_next_94 : decode cX10_next 94 = .ok (.ldc2_w 163, 3) := by decide +kernel
theorem dX10_next_97 : decode cX10_next 97 = .ok (.invokestatic 134, 3) := by decide +kernel
theorem dX10_next_100 : decode cX10_next 100 = .ok (.ifCond .eq 174, 3) := by decide +kernel
theorem dX10_next_103 : decode cX10_next 103 = .ok (.aload_n 0, 1) := by decide +kernel
theorem dX10_next_104 : decode cX10_next 104 = .ok (.dup, 1) := by decide +kernel
theorem dX10_next_105 : decode cX10_next 105 = .ok (.getfield 147, 3) := by decide +kernel
theorem dX10_next_108 : decode cX10_next 108 = .ok (.iconst 1, 1) := by decide +kernel
theorem dX10_next_109 : decode cX10_next 109 = .ok (.iadd, 1) := by decide +kernel
theorem dX10_next_110 : decode cX10_next 110 = .ok (.putfield 147, 3) := by decide +kernel
theorem dX10_next_113 : decode cX10_next 113 = .ok (.goto (-31), 3) := by decide +kernel
theorem dX10_next_116 : decode cX10_next 116 = .ok (.iload_n 1, 1) := by decide +kernel
theorem dX10_next_117 : decode cX10_next 117 = .ok (.i2l, 1) := by decide +kernel
theorem dX10_next_118 : decode cX10_next 118 = .ok (.ldc2_w 165, 3) := by decide +kernel
theorem dX10_next_121 : decode cX10_next 121 = .ok (.ldc2_w 167, 3) := by decide +kernel
theorem dX10_next_124 : decode cX10_next 124 = .ok (.invokestatic 134, 3) := by decide +kernel
theorem dX10_next_127 : decode cX10_next 127 = .ok (.ifCond .eq 116, 3) := by decide +kernel
theorem dX10_next_130 : decode cX10_next 130 = .ok (.aload_n 0, 1) := by decide +kernel
theorem dX10_next_131 : decode cX10_next 131 = .ok (.iconst 2, 1) := by decide +kernel
theorem dX10_next_132 : decode cX10_next 132 = .ok (.putfield 158, 3) := by decide +kernel
theorem dX10_next_135 : decode cX10_next 135 = .ok (.aload_n 0, 1) := by decide +kernel
theorem dX10_next_136 : decode cX10_next 136 = .ok (.iconst 0, 1) := by decide +kernel
theorem dX10_next_137 : decode cX10_next 137 = .ok (.putfield 169, 3) := by decide +kernel
theorem dX10_next_140 : decode cX10_next 140 = .ok (.aload_n 0, 1) := by decide +kernel
theorem dX10_next_141 : decode cX10_next 141 = .ok (.aload_n 0, 1) := by decide +kernel
theorem dX10_next_142 : decode cX10_next 142 = .ok (.getfield 147, 3) := by decide +kernel
theorem dX10_next_145 : decode cX10_next 145 = .ok (.invokevirtual 150, 3) := by decide +kernel
theorem dX10_next_148 : decode cX10_next 148 = .ok (.i2l, 1) := by decide +kernel
theorem dX10_next_149 : decode cX10_next 149 = .ok (.ldc2_w 165, 3) := by decide +kernel
theorem dX10_next_152 : decode cX10_next 152 = .ok (.ldc2_w 167, 3) := by decide +kernel
theorem dX10_next_155 : decode cX10_next 155 = .ok (.invokestatic 134, 3) := by decide +kernel
theorem dX10_next_158 : decode cX10_next 158 = .ok (.ifCond .eq 59, 3) := by decide +kernel
theorem dX10_next_161 : decode cX10_next 161 = .ok (.aload_n 0, 1) := by decide +kernel
theorem dX10_next_162 : decode cX10_next 162 = .ok (.aload_n 0, 1) := by decide +kernel
theorem dX10_next_163 : decode cX10_next 163 = .ok (.getfield 147, 3) := by decide +kernel
theorem dX10_next_166 : decode cX10_next 166 = .ok (.aload_n 0, 1) := by decide +kernel
theorem dX10_next_167 : decode cX10_next 167 = .ok (.getfield 141, 3) := by decide +kernel
theorem dX10_next_170 : decode cX10_next 170 = .ok (.isub, 1) := by decide +kernel
theorem dX10_next_171 : decode cX10_next 171 = .ok (.iconst 2, 1) := by decide +kernel
theorem dX10_next_172 : decode cX10_next 172 = .ok (.if_icmp .ge 25, 3) := by decide +kernel
theorem dX10_next_175 : decode cX10_next 175 = .ok (.bipush 10, 2) := by decide +kernel
theorem dX10_next_177 : decode cX10_next 177 = .ok (.aload_n 0, 1) := by decide +kernel
theorem dX10_next_178 : decode cX10_next 178 = .ok (.getfield 169, 3) := by decide +kernel
theorem dX10_next_181 : decode cX10_next 181 = .ok (.imul, 1) := by decide +kernel
theorem dX10_next_182 : decode cX10_next 182 = .ok (.aload_n 0, 1) := by decide +kernel
theorem dX10_next_183 : decode cX10_next 183 = .ok (.aload_n 0, 1) := by decide +kernel
theorem dX10_next_184 : decode cX10_next 184 = .ok (.getfield 147, 3) := by decide +kernel
theorem dX10_next_187 : decode cX10_next 187 = .ok (.invokevirtual 150, 3) := by decide +kernel
theorem dX10_next_190 : decode cX10_next 190 = .ok (.iadd, 1) := by decide +kernel
theorem dX10_next_191 : decode cX10_next 191 = .ok (.bipush 48, 2) := by decide +kernel
theorem dX10_next_193 : decode cX10_next 193 = .ok (.isub, 1) := by decide +kernel
theorem dX10_next_194 : decode cX10_next 194 = .ok (.goto 7, 3) := by decide +kernel
theorem dX10_next_197 : decode cX10_next 197 = .ok (.aload_n 0, 1) := by decide +kernel
theorem dX10_next_198 : decode cX10_next 198 = .ok (.getfield 169, 3) := by decide +kernel
theorem dX10_next_201 : decode cX10_next 201 = .ok (.putfield 169, 3) := by decide +kernel
theorem dX10_next_204 : decode cX10_next 204 = .ok (.aload_n 0, 1) := by decide +kernel
theorem dX10_next_205 : decode cX10_next 205 = .ok (.dup, 1) := by decide +kernel
theorem dX10_next_206 : decode cX10_next 206 = .ok (.getfield 147, 3) := by decide +kernel
theorem dX10_next_209 : decode cX10_next 209 = .ok (.iconst 1, 1) := by decide +kernel
theorem dX10_next_210 : decode cX10_next 210 = .ok (.iadd, 1) := by decide +kernel
theorem dX10_next_211 : decode cX10_next 211 = .ok (.putfield 147, 3) := by decide +kernel
theorem dX10_next_214 : decode cX10_next 214 = .ok (.goto (-74), 3) := by decide +kernel
theorem dX10_next_217 : decode cX10_next 217 = .ok (.aload_n 0, 1) := by decide +kernel
theorem dX10_next_218 : decode cX10_next 218 = .ok (.aload_n 0, 1) := by decide +kernel
theorem dX10_next_219 : decode cX10_next 219 = .ok (.getfield 147, 3) := by decide +kernel
theorem dX10_next_222 : decode cX10_next 222 = .ok (.aload_n 0, 1) := by decide +kernel
theorem dX10_next_223 : decode cX10_next 223 = .ok (.getfield 141, 3) := by decide +kernel
theorem dX10_next_226 : decode cX10_next 226 = .ok (.isub, 1) := by decide +kernel
theorem dX10_next_227 : decode cX10_next 227 = .ok (.iconst 2, 1) := by decide +kernel
theorem dX10_next_228 : decode cX10_next 228 = .ok (.if_icmp .gt 7, 3) := by decide +kernel
theorem dX10_next_231 : decode cX10_next 231 = .ok (.iconst 1, 1) := by decide +kernel
theorem dX10_next_232 : decode cX10_next 232 = .ok (.goto 4, 3) := by decide +kernel
theorem dX10_next_235 : decode cX10_next 235 = .ok (.iconst 0, 1) := by decide +kernel
theorem dX10_next_236 : decode cX10_next 236 = .ok (.iconst 1, 1) := by decide +kernel
theorem dX10_next_237 : decode cX10_next 237 = .ok (.invokevirtual 172, 3) := by decide +kernel
theorem dX10_next_240 : decode cX10_next 240 = .ok (.goto 34, 3) := by decide +kernel
theorem dX10_next_243 : decode cX10_next 243 = .ok (.aload_n 0, 1) := by decide +kernel
theorem dX10_next_244 : decode cX10_next 244 = .ok (.iconst 3, 1) := by decide +kernel
theorem dX10_next_245 : decode cX10_next 245 = .ok (.putfield 158, 3) := by decide +kernel
theorem dX10_next_248 : decode cX10_next 248 = .ok (.aload_n 0, 1) := by decide +kernel
theorem dX10_next_249 : decode cX10_next 249 = .ok (.iload_n 1, 1) := by decide +kernel
theorem dX10_next_250 : decode cX10_next 250 = .ok (.bipush 59, 2) := by decide +kernel
theorem dX10_next_252 : decode cX10_next 252 = .ok (.if_icmp .ne 7, 3) := by decide +kernel
theorem dX10_next_255 : decode cX10_next 255 = .ok (.iconst 1, 1) := by decide +kernel
theorem dX10_next_256 : decode cX10_next 256 = .ok (.goto 4, 3) := by decide +kernel
theorem dX10_next_259 : decode cX10_next 259 = .ok (.iconst 0, 1) := by decide +kernel
theorem dX10_next_260 : decode cX10_next 260 = .ok (.iconst 1, 1) := by decide +kernel
theorem dX10_next_261 : decode cX10_next 261 = .ok (.invokevirtual 172, 3) := by decide +kernel
theorem dX10_next_264 : decode cX10_next 264 = .ok (.aload_n 0, 1) := by decide +kernel
theorem dX10_next_265 : decode cX10_next 265 = .ok (.dup, 1) := by decide +kernel
theorem dX10_next_266 : decode cX10_next 266 = .ok (.getfield 147, 3) := by decide +kernel
theorem dX10_next_269 : decode cX10_next 269 = .ok (.iconst 1, 1) := by decide +kernel
theorem dX10_next_270 : decode cX10_next 270 = .ok (.iadd, 1) := by decide +kernel
theorem dX10_next_271 : decode cX10_next 271 = .ok (.putfield 147, 3) := by decide +kernel
theorem dX10_next_274 : decode cX10_next 274 = .ok (.return_, 1) := by decide +kernel
theorem dX10_looked_0 : decode cX10_looked 0 = .ok (.aload_n 0, 1) := by decide +kernel
theorem dX10_looked_1 : decode cX10_looked 1 = .ok (.getfield 138, 3) := by decide +kernel
theorem dX10_looked_4 : decode cX10_looked 4 = .ok (.ifCond .ne 21, 3) := by decide +kernel
theorem dX10_looked_7 : decode cX10_looked 7 = .ok (.aload_n 0, 1) := by decide +kernel
theorem dX10_looked_8 : decode cX10_looked 8 = .ok (.aload_n 0, 1) := by decide +kernel
theorem dX10_looked_9 : decode cX10_looked 9 = .ok (.getfield 158, 3) := by decide +kernel
theorem dX10_looked_12 : decode cX10_looked 12 = .ok (.iconst 2, 1) := by decide +kernel
theorem dX10_looked_13 : decode cX10_looked 13 = .ok (.if_icmp .ne 7, 3) := by decide +kernel
theorem dX10_looked_16 : decode cX10_looked 16 = .ok (.iconst 1, 1) := by decide +kernel
theorem dX10_looked_17 : decode cX10_looked 17 = .ok (.goto 4, 3) := by decide +kernel
theorem dX10_looked_20 : decode cX10_looked 20 = .ok (.iconst 0, 1) := by decide +kernel
theorem dX10_looked_21 : decode cX10_looked 21 = .ok (.iconst 2, 1) := by decide +kernel
theorem dX10_looked_22 : decode cX10_looked 22 = .ok (.invokevirtual 172, 3) := by decide +kernel
theorem dX10_looked_25 : decode cX10_looked 25 = .ok (.aload_n 0, 1) := by decide +kernel
theorem dX10_looked_26 : decode cX10_looked 26 = .ok (.getfield 138, 3) := by decide +kernel
theorem dX10_looked_29 : decode cX10_looked 29 = .ok (.ifCond .ne 20, 3) := by decide +kernel
theorem dX10_looked_32 : decode cX10_looked 32 = .ok (.aload_n 0, 1) := by decide +kernel
theorem dX10_looked_33 : decode cX10_looked 33 = .ok (.aload_n 0, 1) := by decide +kernel
theorem dX10_looked_34 : decode cX10_looked 34 = .ok (.getfield 169, 3) := by decide +kernel
theorem dX10_looked_37 : decode cX10_looked 37 = .ok (.i2l, 1) := by decide +kernel
theorem dX10_looked_38 : decode cX10_looked 38 = .ok (.iload_n 1, 1) := by decide +kernel
theorem dX10_looked_39 : decode cX10_looked 39 = .ok (.i2l, 1) := by decide +kernel
theorem dX10_looked_40 : decode cX10_looked 40 = .ok (.iload_n 2, 1) := by decide +kernel
theorem dX10_looked_41 : decode cX10_looked 41 = .ok (.i2l, 1) := by decide +kernel
theorem dX10_looked_42 : decode cX10_looked 42 = .ok (.invokestatic 134, 3) := by decide +kernel
theorem dX10_looked_45 : decode cX10_looked 45 = .ok (.iconst 3, 1) := by decide +kernel
theorem dX10_looked_46 : decode cX10_looked 46 = .ok (.invokevirtual 172, 3) := by decide +kernel
theorem dX10_looked_49 : decode cX10_looked 49 = .ok (.aload_n 0, 1) := by decide +kernel
theorem dX10_looked_50 : decode cX10_looked 50 = .ok (.getfield 138, 3) := by decide +kernel
theorem dX10_looked_53 : decode cX10_looked 53 = .ok (.ifCond .ne 10, 3) := by decide +kernel
theorem dX10_looked_56 : decode cX10_looked 56 = .ok (.aload_n 0, 1) := by decide +kernel
theorem dX10_looked_57 : decode cX10_looked 57 = .ok (.getfield 169, 3) := by decide +kernel
theorem dX10_looked_60 : decode cX10_looked 60 = .ok (.goto 4, 3) := by decide +kernel
theorem dX10_looked_63 : decode cX10_looked 63 = .ok (.iconst 0, 1) := by decide +kernel
theorem dX10_looked_64 : decode cX10_looked 64 = .ok (.ireturn, 1) := by decide +kernel
theorem dX10_readNumber_0 : decode cX10_readNumber 0 = .ok (.aload_n 0, 1) := by decide +kernel
theorem dX10_readNumber_1 : decode cX10_readNumber 1 = .ok (.iload_n 1, 1) := by decide +kernel
theorem dX10_readNumber_2 : decode cX10_readNumber 2 = .ok (.iload_n 2, 1) := by decide +kernel
theorem dX10_readNumber_3 : decode cX10_readNumber 3 = .ok (.invokevirtual 176, 3) := by decide +kernel
theorem dX10_readNumber_6 : decode cX10_readNumber 6 = .ok (.istore_n 3, 1) := by decide +kernel
theorem dX10_readNumber_7 : decode cX10_readNumber 7 = .ok (.aload_n 0, 1) := by decide +kernel
theorem dX10_readNumber_8 : decode cX10_readNumber 8 = .ok (.invokevirtual 179, 3) := by decide +kernel
theorem dX10_readNumber_11 : decode cX10_readNumber 11 = .ok (.iload_n 3, 1) := by decide +kernel
theorem dX10_readNumber_12 : decode cX10_readNumber 12 = .ok (.ireturn, 1) := by decide +kernel
theorem dX10_lookedMatch_0 : decode cX10_lookedMatch 0 = .ok (.aload_n 0, 1) := by decide +kernel
theorem dX10_lookedMatch_1 : decode cX10_lookedMatch 1 = .ok (.iconst 0, 1) := by decide +kernel
theorem dX10_lookedMatch_2 : decode cX10_lookedMatch 2 = .ok (.bipush 30, 2) := by decide +kernel
theorem dX10_lookedMatch_4 : decode cX10_lookedMatch 4 = .ok (.invokevirtual 176, 3) := by decide +kernel
theorem dX10_lookedMatch_7 : decode cX10_lookedMatch 7 = .ok (.istore_n 1, 1) := by decide +kernel
theorem dX10_lookedMatch_8 : decode cX10_lookedMatch 8 = .ok (.aload_n 0, 1) := by decide +kernel
theorem dX10_lookedMatch_9 : decode cX10_lookedMatch 9 = .ok (.iload_n 1, 1) := by decide +kernel
theorem dX10_lookedMatch_10 : decode cX10_lookedMatch 10 = .ok (.aload_n 0, 1) := by decide +kernel
theorem dX10_lookedMatch_11 : decode cX10_lookedMatch 11 = .ok (.getfield 100, 3) := by decide +kernel
theorem dX10_lookedMatch_14 : decode cX10_lookedMatch 14 = .ok (.if_icmp .le 7, 3) := by decide +kernel
theorem dX10_lookedMatch_17 : decode cX10_lookedMatch 17 = .ok (.iload_n 1, 1) := by decide +kernel
theorem dX10_lookedMatch_18 : decode cX10_lookedMatch 18 = .ok (.goto 7, 3) := by decide +kernel
theorem dX10_lookedMatch_21 : decode cX10_lookedMatch 21 = .ok (.aload_n 0, 1) := by decide +kernel
theorem dX10_lookedMatch_22 : decode cX10_lookedMatch 22 = .ok (.getfield 100, 3) := by decide +kernel
theorem dX10_lookedMatch_25 : decode cX10_lookedMatch 25 = .ok (.putfield 100, 3) := by decide +kernel
theorem dX10_lookedMatch_28 : decode cX10_lookedMatch 28 = .ok (.iload_n 1, 1) := by decide +kernel
theorem dX10_lookedMatch_29 : decode cX10_lookedMatch 29 = .ok (.ireturn, 1) := by decide +kernel
theorem dX10_readGone_0 : decode cX10_readGone 0 = .ok (.iconst 1, 1) := by decide +kernel
theorem dX10_readGone_1 : decode cX10_readGone 1 = .ok (.istore_n 1, 1) := by decide +kernel
theorem dX10_readGone_2 : decode cX10_readGone 2 = .ok (.aload_n 0, 1) := by decide +kernel
theorem dX10_readGone_3 : decode cX10_readGone 3 = .ok (.getfield 138, 3) := by decide +kernel
theorem dX10_readGone_6 : decode cX10_readGone 6 = .ok (.ifCond .ne 73, 3) := by decide +kernel
theorem dX10_readGone_9 : decode cX10_readGone 9 = .ok (.iload_n 1, 1) := by decide +kernel
theorem dX10_readGone_10 : decode cX10_readGone 10 = .ok (.ifCond .eq 69, 3) := by decide +kernel
theorem dX10_readGone_13 : decode cX10_readGone 13 = .ok (.aload_n 0, 1) := by decide +kernel
theorem dX10_readGone_14 : decode cX10_readGone 14 = .ok (.invokevirtual 182, 3) := by decide +kernel
theorem dX10_readGone_17 : decode cX10_readGone 17 = .ok (.istore_n 2, 1) := by decide +kernel
theorem dX10_readGone_18 : decode cX10_readGone 18 = .ok (.aload_n 0, 1) := by decide +kernel
theorem dX10_readGone_19 : decode cX10_readGone 19 = .ok (.getfield 138, 3) := by decide +kernel
theorem dX10_readGone_22 : decode cX10_readGone 22 = .ok (.ifCond .ne 36, 3) := by decide +kernel
theorem dX10_readGone_25 : decode cX10_readGone 25 = .ok (.aload_n 0, 1) := by decide +kernel
theorem dX10_readGone_26 : decode cX10_readGone 26 = .ok (.aload_n 0, 1) := by decide +kernel
theorem dX10_readGone_27 : decode cX10_readGone 27 = .ok (.getfield 90, 3) := by decide +kernel
theorem dX10_readGone_30 : decode cX10_readGone 30 = .ok (.iload_n 2, 1) := by decide +kernel
theorem dX10_readGone_31 : decode cX10_readGone 31 = .ok (.ishr, 1) := by decide +kernel
theorem dX10_readGone_32 : decode cX10_readGone 32 = .ok (.iconst 1, 1) := by decide +kernel
theorem dX10_readGone_33 : decode cX10_readGone 33 = .ok (.iand, 1) := by decide +kernel
theorem dX10_readGone_34 : decode cX10_readGone 34 = .ok (.ifCond .ne 7, 3) := by decide +kernel
theorem dX10_readGone_37 : decode cX10_readGone 37 = .ok (.iconst 1, 1) := by decide +kernel
theorem dX10_readGone_38 : decode cX10_readGone 38 = .ok (.goto 4, 3) := by decide +kernel
theorem dX10_readGone_41 : decode cX10_readGone 41 = .ok (.iconst 0, 1) := by decide +kernel
theorem dX10_readGone_42 : decode cX10_readGone 42 = .ok (.iconst 4, 1) := by decide +kernel
theorem dX10_readGone_43 : decode cX10_readGone 43 = .ok (.invokevirtual 172, 3) := by decide +kernel
theorem dX10_readGone_46 : decode cX10_readGone 46 = .ok (.aload_n 0, 1) := by decide +kernel
theorem dX10_readGone_47 : decode cX10_readGone 47 = .ok (.dup, 1) := by decide +kernel
theorem dX10_readGone_48 : decode cX10_readGone 48 = .ok (.getfield 90, 3) := by decide +kernel
theorem dX10_readGone_51 : decode cX10_readGone 51 = .ok (.iconst 1, 1) := by decide +kernel
theorem dX10_readGone_52 : decode cX10_readGone 52 = .ok (.iload_n 2, 1) := by decide +kernel
theorem dX10_readGone_53 : decode cX10_readGone 53 = .ok (.ishl, 1) := by decide +kernel
theorem dX10_readGone_54 : decode cX10_readGone 54 = .ok (.ior, 1) := by decide +kernel
theorem dX10_readGone_55 : decode cX10_readGone 55 = .ok (.putfield 90, 3) := by decide +kernel
theorem dX10_readGone_58 : decode cX10_readGone 58 = .ok (.aload_n 0, 1) := by decide +kernel
theorem dX10_readGone_59 : decode cX10_readGone 59 = .ok (.invokevirtual 179, 3) := by decide +kernel
theorem dX10_readGone_62 : decode cX10_readGone 62 = .ok (.aload_n 0, 1) := by decide +kernel
theorem dX10_readGone_63 : decode cX10_readGone 63 = .ok (.getfield 158, 3) := by decide +kernel
theorem dX10_readGone_66 : decode cX10_readGone 66 = .ok (.iconst 2, 1) := by decide +kernel
theorem dX10_readGone_67 : decode cX10_readGone 67 = .ok (.if_icmp .ne 7, 3) := by decide +kernel
theorem dX10_readGone_70 : decode cX10_readGone 70 = .ok (.iconst 1, 1) := by decide +kernel
theorem dX10_readGone_71 : decode cX10_readGone 71 = .ok (.goto 4, 3) := by decide +kernel
theorem dX10_readGone_74 : decode cX10_readGone 74 = .ok (.iconst 0, 1) := by decide +kernel
theorem dX10_readGone_75 : decode cX10_readGone 75 = .ok (.istore_n 1, 1) := by decide +kernel
theorem dX10_readGone_76 : decode cX10_readGone 76 = .ok (.goto (-74), 3) := by decide +kernel
theorem dX10_readGone_79 : decode cX10_readGone 79 = .ok (.return_, 1) := by decide +kernel
theorem dX10_readSizes_0 : decode cX10_readSizes 0 = .ok (.iconst 1, 1) := by decide +kernel
theorem dX10_readSizes_1 : decode cX10_readSizes 1 = .ok (.istore_n 1, 1) := by decide +kernel
theorem dX10_readSizes_2 : decode cX10_readSizes 2 = .ok (.aload_n 0, 1) := by decide +kernel
theorem dX10_readSizes_3 : decode cX10_readSizes 3 = .ok (.getfield 138, 3) := by decide +kernel
theorem dX10_readSizes_6 : decode cX10_readSizes 6 = .ok (.ifCond .ne 75, 3) := by decide +kernel
theorem dX10_readSizes_9 : decode cX10_readSizes 9 = .ok (.iload_n 1, 1) := by decide +kernel
theorem dX10_readSizes_10 : decode cX10_readSizes 10 = .ok (.ifCond .eq 71, 3) := by decide +kernel
theorem dX10_readSizes_13 : decode cX10_readSizes 13 = .ok (.aload_n 0, 1) := by decide +kernel
theorem dX10_readSizes_14 : decode cX10_readSizes 14 = .ok (.iconst 1, 1) := by decide +kernel
theorem dX10_readSizes_15 : decode cX10_readSizes 15 = .ok (.iconst 3, 1) := by decide +kernel
theorem dX10_readSizes_16 : decode cX10_readSizes 16 = .ok (.invokevirtual 176, 3) := by decide +kernel
theorem dX10_readSizes_19 : decode cX10_readSizes 19 = .ok (.istore_n 2, 1) := by decide +kernel
theorem dX10_readSizes_20 : decode cX10_readSizes 20 = .ok (.aload_n 0, 1) := by decide +kernel
theorem dX10_readSizes_21 : decode cX10_readSizes 21 = .ok (.getfield 138, 3) := by decide +kernel
theorem dX10_readSizes_24 : decode cX10_readSizes 24 = .ok (.ifCond .ne 36, 3) := by decide +kernel
theorem dX10_readSizes_27 : decode cX10_readSizes 27 = .ok (.aload_n 0, 1) := by decide +kernel
theorem dX10_readSizes_28 : decode cX10_readSizes 28 = .ok (.aload_n 0, 1) := by decide +kernel
theorem dX10_readSizes_29 : decode cX10_readSizes 29 = .ok (.getfield 93, 3) := by decide +kernel
theorem dX10_readSizes_32 : decode cX10_readSizes 32 = .ok (.iload_n 2, 1) := by decide +kernel
theorem dX10_readSizes_33 : decode cX10_readSizes 33 = .ok (.ishr, 1) := by decide +kernel
theorem dX10_readSizes_34 : decode cX10_readSizes 34 = .ok (.iconst 1, 1) := by decide +kernel
theorem dX10_readSizes_35 : decode cX10_readSizes 35 = .ok (.iand, 1) := by decide +kernel
theorem dX10_readSizes_36 : decode cX10_readSizes 36 = .ok (.ifCond .ne 7, 3) := by decide +kernel
theorem dX10_readSizes_39 : decode cX10_readSizes 39 = .ok (.iconst 1, 1) := by decide +kernel
theorem dX10_readSizes_40 : decode cX10_readSizes 40 = .ok (.goto 4, 3) := by decide +kernel
theorem dX10_readSizes_43 : decode cX10_readSizes 43 = .ok (.iconst 0, 1) := by decide +kernel
theorem dX10_readSizes_44 : decode cX10_readSizes 44 = .ok (.iconst 4, 1) := by decide +kernel
theorem dX10_readSizes_45 : decode cX10_readSizes 45 = .ok (.invokevirtual 172, 3) := by decide +kernel
theorem dX10_readSizes_48 : decode cX10_readSizes 48 = .ok (.aload_n 0, 1) := by decide +kernel
theorem dX10_readSizes_49 : decode cX10_readSizes 49 = .ok (.dup, 1) := by decide +kernel
theorem dX10_readSizes_50 : decode cX10_readSizes 50 = .ok (.getfield 93, 3) := by decide +kernel
theorem dX10_readSizes_53 : decode cX10_readSizes 53 = .ok (.iconst 1, 1) := by decide +kernel
theorem dX10_readSizes_54 : decode cX10_readSizes 54 = .ok (.iload_n 2, 1) := by decide +kernel
theorem dX10_readSizes_55 : decode cX10_readSizes 55 = .ok (.ishl, 1) := by decide +kernel
theorem dX10_readSizes_56 : decode cX10_readSizes 56 = .ok (.ior, 1) := by decide +kernel
theorem dX10_readSizes_57 : decode cX10_readSizes 57 = .ok (.putfield 93, 3) := by decide +kernel
theorem dX10_readSizes_60 : decode cX10_readSizes 60 = .ok (.aload_n 0, 1) := by decide +kernel
theorem dX10_readSizes_61 : decode cX10_readSizes 61 = .ok (.invokevirtual 179, 3) := by decide +kernel
theorem dX10_readSizes_64 : decode cX10_readSizes 64 = .ok (.aload_n 0, 1) := by decide +kernel
theorem dX10_readSizes_65 : decode cX10_readSizes 65 = .ok (.getfield 158, 3) := by decide +kernel
theorem dX10_readSizes_68 : decode cX10_readSizes 68 = .ok (.iconst 2, 1) := by decide +kernel
theorem dX10_readSizes_69 : decode cX10_readSizes 69 = .ok (.if_icmp .ne 7, 3) := by decide +kernel
theorem dX10_readSizes_72 : decode cX10_readSizes 72 = .ok (.iconst 1, 1) := by decide +kernel
theorem dX10_readSizes_73 : decode cX10_readSizes 73 = .ok (.goto 4, 3) := by decide +kernel
theorem dX10_readSizes_76 : decode cX10_readSizes 76 = .ok (.iconst 0, 1) := by decide +kernel
theorem dX10_readSizes_77 : decode cX10_readSizes 77 = .ok (.istore_n 1, 1) := by decide +kernel
theorem dX10_readSizes_78 : decode cX10_readSizes 78 = .ok (.goto (-76), 3) := by decide +kernel
theorem dX10_readSizes_81 : decode cX10_readSizes 81 = .ok (.return_, 1) := by decide +kernel
theorem dX10_readLineOf_0 : decode cX10_readLineOf 0 = .ok (.iload_n 1, 1) := by decide +kernel
theorem dX10_readLineOf_1 : decode cX10_readLineOf 1 = .ok (.tableswitch 142 0 3 #[31, 59, 66, 135], 31) := by decide +kernel
theorem dX10_readLineOf_32 : decode cX10_readLineOf 32 = .ok (.aload_n 0, 1) := by decide +kernel
