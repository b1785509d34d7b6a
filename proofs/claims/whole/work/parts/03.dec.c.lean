theorem dX9_init_0 : decode cX9_init 0 = .ok (.aload_n 0, 1) := by decide +kernel
theorem dX9_init_1 : decode cX9_init 1 = .ok (.invokespecial 1, 3) := by decide +kernel
theorem dX9_init_4 : decode cX9_init 4 = .ok (.aload_n 0, 1) := by decide +kernel
theorem dX9_init_5 : decode cX9_init 5 = .ok (.new 7, 3) := by decide +kernel
theorem dX9_init_8 : decode cX9_init 8 = .ok (.dup, 1) := by decide +kernel
theorem dX9_init_9 : decode cX9_init 9 = .ok (.invokespecial 9, 3) := by decide +kernel
theorem dX9_init_12 : decode cX9_init 12 = .ok (.putfield 10, 3) := by decide +kernel
theorem dX9_init_15 : decode cX9_init 15 = .ok (.aload_n 0, 1) := by decide +kernel
theorem dX9_init_16 : decode cX9_init 16 = .ok (.new 16, 3) := by decide +kernel
theorem dX9_init_19 : decode cX9_init 19 = .ok (.dup, 1) := by decide +kernel
theorem dX9_init_20 : decode cX9_init 20 = .ok (.invokespecial 18, 3) := by decide +kernel
theorem dX9_init_23 : decode cX9_init 23 = .ok (.putfield 19, 3) := by decide +kernel
theorem dX9_init_26 : decode cX9_init 26 = .ok (.aload_n 0, 1) := by decide +kernel
theorem dX9_init_27 : decode cX9_init 27 = .ok (.new 23, 3) := by decide +kernel
theorem dX9_init_30 : decode cX9_init 30 = .ok (.dup, 1) := by decide +kernel
theorem dX9_init_31 : decode cX9_init 31 = .ok (.invokespecial 25, 3) := by decide +kernel
theorem dX9_init_34 : decode cX9_init 34 = .ok (.putfield 26, 3) := by decide +kernel
theorem dX9_init_37 : decode cX9_init 37 = .ok (.aload_n 0, 1) := by decide +kernel
theorem dX9_init_38 : decode cX9_init 38 = .ok (.new 30, 3) := by decide +kernel
theorem dX9_init_41 : decode cX9_init 41 = .ok (.dup, 1) := by decide +kernel
theorem dX9_init_42 : decode cX9_init 42 = .ok (.aload_n 0, 1) := by decide +kernel
theorem dX9_init_43 : decode cX9_init 43 = .ok (.getfield 26, 3) := by decide +kernel
theorem dX9_init_46 : decode cX9_init 46 = .ok (.invokespecial 32, 3) := by decide +kernel
theorem dX9_init_49 : decode cX9_init 49 = .ok (.putfield 35, 3) := by decide +kernel
theorem dX9_init_52 : decode cX9_init 52 = .ok (.aload_n 0, 1) := by decide +kernel
theorem dX9_init_53 : decode cX9_init 53 = .ok (.new 39, 3) := by decide +kernel
theorem dX9_init_56 : decode cX9_init 56 = .ok (.dup, 1) := by decide +kernel
theorem dX9_init_57 : decode cX9_init 57 = .ok (.invokespecial 41, 3) := by decide +kernel
theorem dX9_init_60 : decode cX9_init 60 = .ok (.putfield 42, 3) := by decide +kernel
theorem dX9_init_63 : decode cX9_init 63 = .ok (.aload_n 0, 1) := by decide +kernel
theorem dX9_init_64 : decode cX9_init 64 = .ok (.new 46, 3) := by decide +kernel
theorem dX9_init_67 : decode cX9_init 67 = .ok (.dup, 1) := by decide +kernel
theorem dX9_init_68 : decode cX9_init 68 = .ok (.invokespecial 48, 3) := by decide +kernel
theorem dX9_init_71 : decode cX9_init 71 = .ok (.putfield 49, 3) := by decide +kernel
theorem dX9_init_74 : decode cX9_init 74 = .ok (.aload_n 0, 1) := by decide +kernel
theorem dX9_init_75 : decode cX9_init 75 = .ok (.new 53, 3) := by decide +kernel
theorem dX9_init_78 : decode cX9_init 78 = .ok (.dup, 1) := by decide +kernel
theorem dX9_init_79 : decode cX9_init 79 = .ok (.invokespecial 55, 3) := by decide +kernel
theorem dX9_init_82 : decode cX9_init 82 = .ok (.putfield 56, 3) := by decide +kernel
theorem dX9_init_85 : decode cX9_init 85 = .ok (.aload_n 0, 1) := by decide +kernel
theorem dX9_init_86 : decode cX9_init 86 = .ok (.new 60, 3) := by decide +kernel
theorem dX9_init_89 : decode cX9_init 89 = .ok (.dup, 1) := by decide +kernel
theorem dX9_init_90 : decode cX9_init 90 = .ok (.invokespecial 62, 3) := by decide +kernel
theorem dX9_init_93 : decode cX9_init 93 = .ok (.putfield 63, 3) := by decide +kernel
theorem dX9_init_96 : decode cX9_init 96 = .ok (.aload_n 0, 1) := by decide +kernel
theorem dX9_init_97 : decode cX9_init 97 = .ok (.iconst 2, 1) := by decide +kernel
theorem dX9_init_98 : decode cX9_init 98 = .ok (.anewarray 16, 3) := by decide +kernel
theorem dX9_init_101 : decode cX9_init 101 = .ok (.putfield 67, 3) := by decide +kernel
theorem dX9_init_104 : decode cX9_init 104 = .ok (.aload_n 0, 1) := by decide +kernel
theorem dX9_init_105 : decode cX9_init 105 = .ok (.iconst 4, 1) := by decide +kernel
theorem dX9_init_106 : decode cX9_init 106 = .ok (.anewarray 71, 3) := by decide +kernel
theorem dX9_init_109 : decode cX9_init 109 = .ok (.putfield 73, 3) := by decide +kernel
theorem dX9_init_112 : decode cX9_init 112 = .ok (.aload_n 0, 1) := by decide +kernel
theorem dX9_init_113 : decode cX9_init 113 = .ok (.new 16, 3) := by decide +kernel
theorem dX9_init_116 : decode cX9_init 116 = .ok (.dup, 1) := by decide +kernel
theorem dX9_init_117 : decode cX9_init 117 = .ok (.invokespecial 18, 3) := by decide +kernel
theorem dX9_init_120 : decode cX9_init 120 = .ok (.putfield 77, 3) := by decide +kernel
theorem dX9_init_123 : decode cX9_init 123 = .ok (.aload_n 0, 1) := by decide +kernel
theorem dX9_init_124 : decode cX9_init 124 = .ok (.getfield 10, 3) := by decide +kernel
theorem dX9_init_127 : decode cX9_init 127 = .ok (.iconst 2, 1) := by decide +kernel
theorem dX9_init_128 : decode cX9_init 128 = .ok (.iconst 2, 1) := by decide +kernel
theorem dX9_init_129 : decode cX9_init 129 = .ok (.invokevirtual 80, 3) := by decide +kernel
theorem dX9_init_132 : decode cX9_init 132 = .ok (.aload_n 0, 1) := by decide +kernel
theorem dX9_init_133 : decode cX9_init 133 = .ok (.getfield 19, 3) := by decide +kernel
theorem dX9_init_136 : decode cX9_init 136 = .ok (.aload_n 0, 1) := by decide +kernel
theorem dX9_init_137 : decode cX9_init 137 = .ok (.getfield 10, 3) := by decide +kernel
theorem dX9_init_140 : decode cX9_init 140 = .ok (.invokevirtual 84, 3) := by decide +kernel
theorem dX9_init_143 : decode cX9_init 143 = .ok (.invokevirtual 88, 3) := by decide +kernel
theorem dX9_init_146 : decode cX9_init 146 = .ok (.iconst 0, 1) := by decide +kernel
theorem dX9_init_147 : decode cX9_init 147 = .ok (.istore_n 1, 1) := by decide +kernel
theorem dX9_init_148 : decode cX9_init 148 = .ok (.iload_n 1, 1) := by decide +kernel
theorem dX9_init_149 : decode cX9_init 149 = .ok (.iconst 2, 1) := by decide +kernel
theorem dX9_init_150 : decode cX9_init 150 = .ok (.if_icmp .ge 22, 3) := by decide +kernel
theorem dX9_init_153 : decode cX9_init 153 = .ok (.aload_n 0, 1) := by decide +kernel
theorem dX9_init_154 : decode cX9_init 154 = .ok (.getfield 67, 3) := by decide +kernel
theorem dX9_init_157 : decode cX9_init 157 = .ok (.iload_n 1, 1) := by decide +kernel
theorem dX9_init_158 : decode cX9_init 158 = .ok (.new 16, 3) := by decide +kernel
theorem dX9_init_161 : decode cX9_init 161 = .ok (.dup, 1) := by decide +kernel
theorem dX9_init_162 : decode cX9_init 162 = .ok (.invokespecial 18, 3) := by decide +kernel
theorem dX9_init_165 : decode cX9_init 165 = .ok (.aastore, 1) := by decide +kernel
theorem dX9_init_166 : decode cX9_init 166 = .ok (.iinc 1 1, 3) := by decide +kernel
theorem dX9_init_169 : decode cX9_init 169 = .ok (.goto (-21), 3) := by decide +kernel
theorem dX9_init_172 : decode cX9_init 172 = .ok (.aload_n 0, 1) := by decide +kernel
theorem dX9_init_173 : decode cX9_init 173 = .ok (.getfield 77, 3) := by decide +kernel
theorem dX9_init_176 : decode cX9_init 176 = .ok (.iconst 0, 1) := by decide +kernel
theorem dX9_init_177 : decode cX9_init 177 = .ok (.invokevirtual 88, 3) := by decide +kernel
theorem dX9_init_180 : decode cX9_init 180 = .ok (.return_, 1) := by decide +kernel
theorem dX9_feed_0 : decode cX9_feed 0 = .ok (.aload_n 0, 1) := by decide +kernel
theorem dX9_feed_1 : decode cX9_feed 1 = .ok (.getfield 26, 3) := by decide +kernel
theorem dX9_feed_4 : decode cX9_feed 4 = .ok (.lload_n 1, 1) := by decide +kernel
theorem dX9_feed_5 : decode cX9_feed 5 = .ok (.invokevirtual 92, 3) := by decide +kernel
theorem dX9_feed_8 : decode cX9_feed 8 = .ok (.ifCond .eq 13, 3) := by decide +kernel
theorem dX9_feed_11 : decode cX9_feed 11 = .ok (.aload_n 0, 1) := by decide +kernel
theorem dX9_feed_12 : decode cX9_feed 12 = .ok (.getfield 26, 3) := by decide +kernel
theorem dX9_feed_15 : decode cX9_feed 15 = .ok (.getfield 96, 3) := by decide +kernel
theorem dX9_feed_18 : decode cX9_feed 18 = .ok (.goto 5, 3) := by decide +kernel
theorem dX9_feed_21 : decode cX9_feed 21 = .ok (.bipush (-3), 2) := by decide +kernel
theorem dX9_feed_23 : decode cX9_feed 23 = .ok (.ireturn, 1) := by decide +kernel
theorem dX9_end_0 : decode cX9_end 0 = .ok (.iload_n 1, 1) := by decide +kernel
theorem dX9_end_1 : decode cX9_end 1 = .ok (.ifCond .lt 14, 3) := by decide +kernel
theorem dX9_end_4 : decode cX9_end 4 = .ok (.iload_n 1, 1) := by decide +kernel
theorem dX9_end_5 : decode cX9_end 5 = .ok (.aload_n 0, 1) := by decide +kernel
theorem dX9_end_6 : decode cX9_end 6 = .ok (.getfield 26, 3) := by decide +kernel
theorem dX9_end_9 : decode cX9_end 9 = .ok (.getfield 96, 3) := by decide +kernel
theorem dX9_end_12 : decode cX9_end 12 = .ok (.if_icmp .le 5, 3) := by decide +kernel
theorem dX9_end_15 : decode cX9_end 15 = .ok (.iconst (-1), 1) := by decide +kernel
theorem dX9_end_16 : decode cX9_end 16 = .ok (.ireturn, 1) := by decide +kernel
theorem dX9_end_17 : decode cX9_end 17 = .ok (.aload_n 0, 1) := by decide +kernel
theorem dX9_end_18 : decode cX9_end 18 = .ok (.getfield 26, 3) := by decide +kernel
theorem dX9_end_21 : decode cX9_end 21 = .ok (.getfield 96, 3) := by decide +kernel
theorem dX9_end_24 : decode cX9_end 24 = .ok (.istore_n 2, 1) := by decide +kernel
theorem dX9_end_25 : decode cX9_end 25 = .ok (.aload_n 0, 1) := by decide +kernel
theorem dX9_end_26 : decode cX9_end 26 = .ok (.getfield 26, 3) := by decide +kernel
theorem dX9_end_29 : decode cX9_end 29 = .ok (.iload_n 1, 1) := by decide +kernel
theorem dX9_end_30 : decode cX9_end 30 = .ok (.putfield 96, 3) := by decide +kernel
theorem dX9_end_33 : decode cX9_end 33 = .ok (.iload_n 2, 1) := by decide +kernel
theorem dX9_end_34 : decode cX9_end 34 = .ok (.ireturn, 1) := by decide +kernel
theorem dX9_text_0 : decode cX9_text 0 = .ok (.aload_n 0, 1) := by decide +kernel
theorem dX9_text_1 : decode cX9_text 1 = .ok (.getfield 35, 3) := by decide +kernel
theorem dX9_text_4 : decode cX9_text 4 = .ok (.invokevirtual 100, 3) := by decide +kernel
theorem dX9_text_7 : decode cX9_text 7 = .ok (.istore_n 1, 1) := by decide +kernel
theorem dX9_text_8 : decode cX9_text 8 = .ok (.aload_n 0, 1) := by decide +kernel
theorem dX9_text_9 : decode cX9_text 9 = .ok (.getfield 26, 3) := by decide +kernel
theorem dX9_text_12 : decode cX9_text 12 = .ok (.iconst 0, 1) := by decide +kernel
theorem dX9_text_13 : decode cX9_text 13 = .ok (.putfield 96, 3) := by decide +kernel
theorem dX9_text_16 : decode cX9_text 16 = .ok (.iload_n 1, 1) := by decide +kernel
theorem dX9_text_17 : decode cX9_text 17 = .ok (.ifCond .ne 14, 3) := by decide +kernel
theorem dX9_text_20 : decode cX9_text 20 = .ok (.bipush (-10), 2) := by decide +kernel
theorem dX9_text_22 : decode cX9_text 22 = .ok (.aload_n 0, 1) := by decide +kernel
theorem dX9_text_23 : decode cX9_text 23 = .ok (.getfield 35, 3) := by decide +kernel
theorem dX9_text_26 : decode cX9_text 26 = .ok (.getfield 104, 3) := by decide +kernel
theorem dX9_text_29 : decode cX9_text 29 = .ok (.isub, 1) := by decide +kernel
theorem dX9_text_30 : decode cX9_text 30 = .ok (.ireturn, 1) := by decide +kernel
theorem dX9_text_31 : decode cX9_text 31 = .ok (.aload_n 0, 1) := by decide +kernel
theorem dX9_text_32 : decode cX9_text 32 = .ok (.getfield 10, 3) := by decide +kernel
theorem dX9_text_35 : decode cX9_text 35 = .ok (.aload_n 0, 1) := by decide +kernel
theorem dX9_text_36 : decode cX9_text 36 = .ok (.getfield 35, 3) := by decide +kernel
theorem dX9_text_39 : decode cX9_text 39 = .ok (.getfield 107, 3) := by decide +kernel
theorem dX9_text_42 : decode cX9_text 42 = .ok (.aload_n 0, 1) := by decide +kernel
theorem dX9_text_43 : decode cX9_text 43 = .ok (.getfield 35, 3) := by decide +kernel
theorem dX9_text_46 : decode cX9_text 46 = .ok (.getfield 110, 3) := by decide +kernel
theorem dX9_text_49 : decode cX9_text 49 = .ok (.invokevirtual 80, 3) := by decide +kernel
theorem dX9_text_52 : decode cX9_text 52 = .ok (.aload_n 0, 1) := by decide +kernel
theorem dX9_text_53 : decode cX9_text 53 = .ok (.getfield 19, 3) := by decide +kernel
theorem dX9_text_56 : decode cX9_text 56 = .ok (.aload_n 0, 1) := by decide +kernel
theorem dX9_text_57 : decode cX9_text 57 = .ok (.getfield 35, 3) := by decide +kernel
theorem dX9_text_60 : decode cX9_text 60 = .ok (.getfield 113, 3) := by decide +kernel
theorem dX9_text_63 : decode cX9_text 63 = .ok (.invokevirtual 116, 3) := by decide +kernel
theorem dX9_text_66 : decode cX9_text 66 = .ok (.aload_n 0, 1) := by decide +kernel
theorem dX9_text_67 : decode cX9_text 67 = .ok (.iconst 0, 1) := by decide +kernel
theorem dX9_text_68 : decode cX9_text 68 = .ok (.putfield 120, 3) := by decide +kernel
theorem dX9_text_71 : decode cX9_text 71 = .ok (.aload_n 0, 1) := by decide +kernel
theorem dX9_text_72 : decode cX9_text 72 = .ok (.getfield 35, 3) := by decide +kernel
theorem dX9_text_75 : decode cX9_text 75 = .ok (.getfield 123, 3) := by decide +kernel
theorem dX9_text_78 : decode cX9_text 78 = .ok (.ireturn, 1) := by decide +kernel
theorem dX9_fault_0 : decode cX9_fault 0 = .ok (.aload_n 0, 1) := by decide +kernel
theorem dX9_fault_1 : decode cX9_fault 1 = .ok (.getfield 35, 3) := by decide +kernel
theorem dX9_fault_4 : decode cX9_fault 4 = .ok (.getfield 126, 3) := by decide +kernel
theorem dX9_fault_7 : decode cX9_fault 7 = .ok (.ireturn, 1) := by decide +kernel
theorem dX9_rule_0 : decode cX9_rule 0 = .ok (.iload_n 1, 1) := by decide +kernel
theorem dX9_rule_1 : decode cX9_rule 1 = .ok (.tableswitch 87 0 5 #[39, 47, 55, 63, 71, 79], 39) := by decide +kernel
theorem dX9_rule_40 : decode cX9_rule 40 = .ok (.aload_n 0, 1) := by decide +kernel
theorem dX9_rule_41 : decode cX9_rule 41 = .ok (.getfield 10, 3) := by decide +kernel
theorem dX9_rule_44 : decode cX9_rule 44 = .ok (.getfield 129, 3) := by decide +kernel
theorem dX9_rule_47 : decode cX9_rule 47 = .ok (.ireturn, 1) := by decide +kernel
theorem dX9_rule_48 : decode cX9_rule 48 = .ok (.aload_n 0, 1) := by decide +kernel
theorem dX9_rule_49 : decode cX9_rule 49 = .ok (.getfield 10, 3) := by decide +kernel
theorem dX9_rule_52 : decode cX9_rule 52 = .ok (.getfield 130, 3) := by decide +kernel
theorem dX9_rule_55 : decode cX9_rule 55 = .ok (.ireturn, 1) := by decide +kernel
theorem dX9_rule_56 : decode cX9_rule 56 = .ok (.aload_n 0, 1) := by decide +kernel
theorem dX9_rule_57 : decode cX9_rule 57 = .ok (.getfield 10, 3) := by decide +kernel
theorem dX9_rule_60 : decode cX9_rule 60 = .ok (.getfield 131, 3) := by decide +kernel
theorem dX9_rule_63 : decode cX9_rule 63 = .ok (.ireturn, 1) := by decide +kernel
theorem dX9_rule_64 : decode cX9_rule 64 = .ok (.aload_n 0, 1) := by decide +kernel
theorem dX9_rule_65 : decode cX9_rule 65 = .ok (.getfield 10, 3) := by decide +kernel
theorem dX9_rule_68 : decode cX9_rule 68 = .ok (.getfield 134, 3) := by decide +kernel
theorem dX9_rule_71 : decode cX9_rule 71 = .ok (.ireturn, 1) := by decide +kernel
theorem dX9_rule_72 : decode cX9_rule 72 = .ok (.aload_n 0, 1) := by decide +kernel
theorem dX9_rule_73 : decode cX9_rule 73 = .ok (.getfield 19, 3) := by decide +kernel
theorem dX9_rule_76 : decode cX9_rule 76 = .ok (.getfield 137, 3) := by decide +kernel
theorem dX9_rule_79 : decode cX9_rule 79 = .ok (.ireturn, 1) := by decide +kernel
theorem dX9_rule_80 : decode cX9_rule 80 = .ok (.aload_n 0, 1) := by decide +kernel
theorem dX9_rule_81 : decode cX9_rule 81 = .ok (.getfield 19, 3) := by decide +kernel
theorem dX9_rule_84 : decode cX9_rule 84 = .ok (.getfield 140, 3) := by decide +kernel
theorem dX9_rule_87 : decode cX9_rule 87 = .ok (.ireturn, 1) := by decide +kernel
theorem dX9_rule_88 : decode cX9_rule 88 = .ok (.iconst (-1), 1) := by decide +kernel
theorem dX9_rule_89 : decode cX9_rule 89 = .ok (.ireturn, 1) := by decide +kernel
theorem dX9_square_0 : decode cX9_square 0 = .ok (.iload_n 1, 1) := by decide +kernel
theorem dX9_square_1 : decode cX9_square 1 = .ok (.ifCond .lt 14, 3) := by decide +kernel
theorem dX9_square_4 : decode cX9_square 4 = .ok (.iload_n 1, 1) := by decide +kernel
theorem dX9_square_5 : decode cX9_square 5 = .ok (.aload_n 0, 1) := by decide +kernel
theorem dX9_square_6 : decode cX9_square 6 = .ok (.getfield 10, 3) := by decide +kernel
theorem dX9_square_9 : decode cX9_square 9 = .ok (.getfield 134, 3) := by decide +kernel
theorem dX9_square_12 : decode cX9_square 12 = .ok (.if_icmp .lt 5, 3) := by decide +kernel
theorem dX9_square_15 : decode cX9_square 15 = .ok (.iconst (-1), 1) := by decide +kernel
theorem dX9_square_16 : decode cX9_square 16 = .ok (.ireturn, 1) := by decide +kernel
theorem dX9_square_17 : decode cX9_square 17 = .ok (.iload_n 2, 1) := by decide +kernel
theorem dX9_square_18 : decode cX9_square 18 = .ok (.tableswitch 93 0 4 #[34, 44, 54, 64, 74], 34) := by decide +kernel
theorem dX9_square_52 : decode cX9_square 52 = .ok (.aload_n 0, 1) := by decide +kernel
theorem dX9_square_53 : decode cX9_square 53 = .ok (.getfield 10, 3) := by decide +kernel
theorem dX9_square_56 : decode cX9_square 56 = .ok (.getfield 143, 3) := by decide +kernel
theorem dX9_square_59 : decode cX9_square 59 = .ok (.iload_n 1, 1) := by decide +kernel
theorem dX9_square_60 : decode cX9_square 60 = .ok (.iaload, 1) := by decide +kernel
theorem dX9_square_61 : decode cX9_square 61 = .ok (.ireturn, 1) := by decide +kernel
theorem dX9_square_62 : decode cX9_square 62 = .ok (.aload_n 0, 1) := by decide +kernel
theorem dX9_square_63 : decode cX9_square 63 = .ok (.getfield 10, 3) := by decide +kernel
theorem dX9_square_66 : decode cX9_square 66 = .ok (.getfield 147, 3) := by decide +kernel
theorem dX9_square_69 : decode cX9_square 69 = .ok (.iload_n 1, 1) := by decide +kernel
theorem dX9_square_70 : decode cX9_square 70 = .ok (.iaload, 1) := by decide +kernel
theorem dX9_square_71 : decode cX9_square 71 = .ok (.ireturn, 1) := by decide +kernel
theorem dX9_square_72 : decode cX9_square 72 = .ok (.aload_n 0, 1) := by decide +kernel
theorem dX9_square_73 : decode cX9_square 73 = .ok (.getfield 10, 3) := by decide +kernel
theorem dX9_square_76 : decode cX9_square 76 = .ok (.getfield 150, 3) := by decide +kernel
theorem dX9_square_79 : decode cX9_square 79 = .ok (.iload_n 1, 1) := by decide +kernel
theorem dX9_square_80 : decode cX9_square 80 = .ok (.iaload, 1) := by decide +kernel
theorem dX9_square_81 : decode cX9_square 81 = .ok (.ireturn, 1) := by decide +kernel
theorem dX9_square_82 : decode cX9_square 82 = .ok (.aload_n 0, 1) := by decide +kernel
theorem dX9_square_83 : decode cX9_square 83 = .ok (.getfield 10, 3) := by decide +kernel
theorem dX9_square_86 : decode cX9_square 86 = .ok (.getfield 153, 3) := by decide +kernel
theorem dX9_square_89 : decode cX9_square 89 = .ok (.iload_n 1, 1) := by decide +kernel
theorem dX9_square_90 : decode cX9_square 90 = .ok (.iaload, 1) := by decide +kernel
theorem dX9_square_91 : decode cX9_square 91 = .ok (.ireturn, 1) := by decide +kernel
theorem dX9_square_92 : decode cX9_square 92 = .ok (.aload_n 0, 1) := by decide +kernel
theorem dX9_square_93 : decode cX9_square 93 = .ok (.getfield 10, 3) := by decide +kernel
theorem dX9_square_96 : decode cX9_square 96 = .ok (.aload_n 0, 1) := by decide +kernel
theorem dX9_square_97 : decode cX9_square 97 = .ok (.getfield 19, 3) := by decide +kernel
theorem dX9_square_100 : decode cX9_square 100 = .ok (.getfield 137, 3) := by decide +kernel
theorem dX9_square_103 : decode cX9_square 103 = .ok (.invokevirtual 156, 3) := by decide +kernel
theorem dX9_square_106 : decode cX9_square 106 = .ok (.iload_n 1, 1) := by decide +kernel
theorem dX9_square_107 : decode cX9_square 107 = .ok (.ishr, 1) := by decide +kernel
theorem dX9_square_108 : decode cX9_square 108 = .ok (.iconst 1, 1) := by decide +kernel
theorem dX9_square_109 : decode cX9_square 109 = .ok (.iand, 1) := by decide +kernel
theorem dX9_square_110 : decode cX9_square 110 = .ok (.ireturn, 1) := by decide +kernel
theorem dX9_square_111 : decode cX9_square 111 = .ok (.iconst (-1), 1) := by decide +kernel
theorem dX9_square_112 : decode cX9_square 112 = .ok (.ireturn, 1) := by decide +kernel
theorem dX9_cost_0 : decode cX9_cost 0 = .ok (.aload_n 0, 1) := by decide +kernel
theorem dX9_cost_1 : decode cX9_cost 1 = .ok (.iload_n 1, 1) := by decide +kernel
theorem dX9_cost_2 : decode cX9_cost 2 = .ok (.invokevirtual 160, 3) := by decide +kernel
theorem dX9_cost_5 : decode cX9_cost 5 = .ok (.ifCond .eq 15, 3) := by decide +kernel
theorem dX9_cost_8 : decode cX9_cost 8 = .ok (.aload_n 0, 1) := by decide +kernel
theorem dX9_cost_9 : decode cX9_cost 9 = .ok (.getfield 19, 3) := by decide +kernel
theorem dX9_cost_12 : decode cX9_cost 12 = .ok (.getfield 164, 3) := by decide +kernel
theorem dX9_cost_15 : decode cX9_cost 15 = .ok (.iload_n 1, 1) := by decide +kernel
theorem dX9_cost_16 : decode cX9_cost 16 = .ok (.iaload, 1) := by decide +kernel
theorem dX9_cost_17 : decode cX9_cost 17 = .ok (.goto 4, 3) := by decide +kernel
theorem dX9_cost_20 : decode cX9_cost 20 = .ok (.iconst (-1), 1) := by decide +kernel
theorem dX9_cost_21 : decode cX9_cost 21 = .ok (.ireturn, 1) := by decide +kernel
theorem dX9_whole_0 : decode cX9_whole 0 = .ok (.iload_n 1, 1) := by decide +kernel
theorem dX9_whole_1 : decode cX9_whole 1 = .ok (.invokestatic 167, 3) := by decide +kernel
theorem dX9_whole_4 : decode cX9_whole 4 = .ok (.ifCond .eq 33, 3) := by decide +kernel
theorem dX9_whole_7 : decode cX9_whole 7 = .ok (.aload_n 0, 1) := by decide +kernel
theorem dX9_whole_8 : decode cX9_whole 8 = .ok (.getfield 10, 3) := by decide +kernel
theorem dX9_whole_11 : decode cX9_whole 11 = .ok (.aload_n 0, 1) := by decide +kernel
theorem dX9_whole_12 : decode cX9_whole 12 = .ok (.getfield 19, 3) := by decide +kernel
theorem dX9_whole_15 : decode cX9_whole 15 = .ok (.getfield 137, 3) := by decide +kernel
theorem dX9_whole_18 : decode cX9_whole 18 = .ok (.invokevirtual 156, 3) := by decide +kernel
theorem dX9_whole_21 : decode cX9_whole 21 = .ok (.aload_n 0, 1) := by decide +kernel
theorem dX9_whole_22 : decode cX9_whole 22 = .ok (.getfield 10, 3) := by decide +kernel
theorem dX9_whole_25 : decode cX9_whole 25 = .ok (.getfield 170, 3) := by decide +kernel
theorem dX9_whole_28 : decode cX9_whole 28 = .ok (.iload_n 1, 1) := by decide +kernel
theorem dX9_whole_29 : decode cX9_whole 29 = .ok (.iaload, 1) := by decide +kernel
theorem dX9_whole_30 : decode cX9_whole 30 = .ok (.iand, 1) := by decide +kernel
theorem dX9_whole_31 : decode cX9_whole 31 = .ok (.invokestatic 173, 3) := by decide +kernel
theorem dX9_whole_34 : decode cX9_whole 34 = .ok (.goto 4, 3) := by decide +kernel
theorem dX9_whole_37 : decode cX9_whole 37 = .ok (.iconst (-1), 1) := by decide +kernel
theorem dX9_whole_38 : decode cX9_whole 38 = .ok (.ireturn, 1) := by decide +kernel
theorem dX9_left_0 : decode cX9_left 0 = .ok (.aload_n 0, 1) := by decide +kernel
theorem dX9_left_1 : decode cX9_left 1 = .ok (.aload_n 0, 1) := by decide +kernel
theorem dX9_left_2 : decode cX9_left 2 = .ok (.getfield 19, 3) := by decide +kernel
theorem dX9_left_5 : decode cX9_left 5 = .ok (.getfield 137, 3) := by decide +kernel
theorem dX9_left_8 : decode cX9_left 8 = .ok (.invokevirtual 178, 3) := by decide +kernel
theorem dX9_left_11 : decode cX9_left 11 = .ok (.ireturn, 1) := by decide +kernel
theorem dX9_take_0 : decode cX9_take 0 = .ok (.aload_n 0, 1) := by decide +kernel
theorem dX9_take_1 : decode cX9_take 1 = .ok (.iload_n 1, 1) := by decide +kernel
theorem dX9_take_2 : decode cX9_take 2 = .ok (.invokevirtual 181, 3) := by decide +kernel
theorem dX9_take_5 : decode cX9_take 5 = .ok (.istore_n 2, 1) := by decide +kernel
theorem dX9_take_6 : decode cX9_take 6 = .ok (.iload_n 2, 1) := by decide +kernel
theorem dX9_take_7 : decode cX9_take 7 = .ok (.ifCond .ge 7, 3) := by decide +kernel
theorem dX9_take_10 : decode cX9_take 10 = .ok (.iload_n 2, 1) := by decide +kernel
theorem dX9_take_11 : decode cX9_take 11 = .ok (.goto 14, 3) := by decide +kernel
theorem dX9_take_14 : decode cX9_take 14 = .ok (.aload_n 0, 1) := by decide +kernel
theorem dX9_take_15 : decode cX9_take 15 = .ok (.aload_n 0, 1) := by decide +kernel
theorem dX9_take_16 : decode cX9_take 16 = .ok (.getfield 19, 3) := by decide +kernel
theorem dX9_take_19 : decode cX9_take 19 = .ok (.getfield 137, 3) := by decide +kernel
theorem dX9_take_22 : decode cX9_take 22 = .ok (.invokevirtual 178, 3) := by decide +kernel
theorem dX9_take_25 : decode cX9_take 25 = .ok (.ireturn, 1) := by decide +kernel
theorem dX9_lie_0 : decode cX9_lie 0 = .ok (.aload_n 0, 1) := by decide +kernel
theorem dX9_lie_1 : decode cX9_lie 1 = .ok (.iload_n 1, 1) := by decide +kernel
theorem dX9_lie_2 : decode cX9_lie 2 = .ok (.invokevirtual 160, 3) := by decide +kernel
theorem dX9_lie_5 : decode cX9_lie 5 = .ok (.ifCond .ne 5, 3) := by decide +kernel
theorem dX9_lie_8 : decode cX9_lie 8 = .ok (.iconst (-1), 1) := by decide +kernel
theorem dX9_lie_9 : decode cX9_lie 9 = .ok (.ireturn, 1) := by decide +kernel
theorem dX9_lie_10 : decode cX9_lie 10 = .ok (.aload_n 0, 1) := by decide +kernel
theorem dX9_lie_11 : decode cX9_lie 11 = .ok (.iload_n 1, 1) := by decide +kernel
theorem dX9_lie_12 : decode cX9_lie 12 = .ok (.invokevirtual 184, 3) := by decide +kernel
theorem dX9_lie_15 : decode cX9_lie 15 = .ok (.ifCond .eq 6, 3) := by decide +kernel
theorem dX9_lie_18 : decode cX9_lie 18 = .ok (.bipush (-2), 2) := by decide +kernel
theorem dX9_lie_20 : decode cX9_lie 20 = .ok (.ireturn, 1) := by decide +kernel
theorem dX9_lie_21 : decode cX9_lie 21 = .ok (.aload_n 0, 1) := by decide +kernel
theorem dX9_lie_22 : decode cX9_lie 22 = .ok (.getfield 19, 3) := by decide +kernel
theorem dX9_lie_25 : decode cX9_lie 25 = .ok (.dup, 1) := by decide +kernel
theorem dX9_lie_26 : decode cX9_lie 26 = .ok (.getfield 137, 3) := by decide +kernel
theorem dX9_lie_29 : decode cX9_lie 29 = .ok (.iconst 1, 1) := by decide +kernel
theorem dX9_lie_30 : decode cX9_lie 30 = .ok (.iload_n 1, 1) := by decide +kernel
theorem dX9_lie_31 : decode cX9_lie 31 = .ok (.ishl, 1) := by decide +kernel
theorem dX9_lie_32 : decode cX9_lie 32 = .ok (.ior, 1) := by decide +kernel
theorem dX9_lie_33 : decode cX9_lie 33 = .ok (.putfield 137, 3) := by decide +kernel
theorem dX9_lie_36 : decode cX9_lie 36 = .ok (.aload_n 0, 1) := by decide +kernel
theorem dX9_lie_37 : decode cX9_lie 37 = .ok (.aload_n 0, 1) := by decide +kernel
theorem dX9_lie_38 : decode cX9_lie 38 = .ok (.getfield 19, 3) := by decide +kernel
theorem dX9_lie_41 : decode cX9_lie 41 = .ok (.getfield 137, 3) := by decide +kernel
theorem dX9_lie_44 : decode cX9_lie 44 = .ok (.invokevirtual 178, 3) := by decide +kernel
theorem dX9_lie_47 : decode cX9_lie 47 = .ok (.ireturn, 1) := by decide +kernel
theorem dX9_price_0 : decode cX9_price 0 = .ok (.aload_n 0, 1) := by decide +kernel
theorem dX9_price_1 : decode cX9_price 1 = .ok (.iload_n 1, 1) := by decide +kernel
theorem dX9_price_2 : decode cX9_price 2 = .ok (.invokevirtual 160, 3) := by decide +kernel
theorem dX9_price_5 : decode cX9_price 5 = .ok (.ifCond .eq 14, 3) := by decide +kernel
theorem dX9_price_8 : decode cX9_price 8 = .ok (.iload_n 2, 1) := by decide +kernel
theorem dX9_price_9 : decode cX9_price 9 = .ok (.iconst 1, 1) := by decide +kernel
theorem dX9_price_10 : decode cX9_price 10 = .ok (.if_icmp .lt 9, 3) := by decide +kernel
theorem dX9_price_13 : decode cX9_price 13 = .ok (.iload_n 2, 1) := by decide +kernel
theorem dX9_price_14 : decode cX9_price 14 = .ok (.bipush 9, 2) := by decide +kernel
theorem dX9_price_16 : decode cX9_price 16 = .ok (.if_icmp .le 5, 3) := by decide +kernel
theorem dX9_price_19 : decode cX9_price 19 = .ok (.iconst (-1), 1) := by decide +kernel
theorem dX9_price_20 : decode cX9_price 20 = .ok (.ireturn, 1) := by decide +kernel
theorem dX9_price_21 : decode cX9_price 21 = .ok (.aload_n 0, 1) := by decide +kernel
theorem dX9_price_22 : decode cX9_price 22 = .ok (.getfield 19, 3) := by decide +kernel
theorem dX9_price_25 : decode cX9_price 25 = .ok (.getfield 164, 3) := by decide +kernel
theorem dX9_price_28 : decode cX9_price 28 = .ok (.iload_n 1, 1) := by decide +kernel
theorem dX9_price_29 : decode cX9_price 29 = .ok (.iaload, 1) := by decide +kernel
theorem dX9_price_30 : decode cX9_price 30 = .ok (.istore_n 3, 1) := by decide +kernel
theorem dX9_price_31 : decode cX9_price 31 = .ok (.aload_n 0, 1) := by decide +kernel
theorem dX9_price_32 : decode cX9_price 32 = .ok (.getfield 19, 3) := by decide +kernel
theorem dX9_price_35 : decode cX9_price 35 = .ok (.getfield 164, 3) := by decide +kernel
theorem dX9_price_38 : decode cX9_price 38 = .ok (.iload_n 1, 1) := by decide +kernel
theorem dX9_price_39 : decode cX9_price 39 = .ok (.iload_n 2, 1) := by decide +kernel
theorem dX9_price_40 : decode cX9_price 40 = .ok (.iastore, 1) := by decide +kernel
theorem dX9_price_41 : decode cX9_price 41 = .ok (.iload_n 3, 1) := by decide +kernel
theorem dX9_price_42 : decode cX9_price 42 = .ok (.ireturn, 1) := by decide +kernel
theorem dX9_counts_0 : decode cX9_counts 0 = .ok (.iload_n 1, 1) := by decide +kernel
theorem dX9_counts_1 : decode cX9_counts 1 = .ok (.invokestatic 167, 3) := by decide +kernel
theorem dX9_counts_4 : decode cX9_counts 4 = .ok (.ifCond .ne 5, 3) := by decide +kernel
theorem dX9_counts_7 : decode cX9_counts 7 = .ok (.iconst (-1), 1) := by decide +kernel
theorem dX9_counts_8 : decode cX9_counts 8 = .ok (.ireturn, 1) := by decide +kernel
theorem dX9_counts_9 : decode cX9_counts 9 = .ok (.aload_n 0, 1) := by decide +kernel
theorem dX9_counts_10 : decode cX9_counts 10 = .ok (.getfield 19, 3) := by decide +kernel
theorem dX9_counts_13 : decode cX9_counts 13 = .ok (.getfield 140, 3) := by decide +kernel
theorem dX9_counts_16 : decode cX9_counts 16 = .ok (.iload_n 1, 1) := by decide +kernel
theorem dX9_counts_17 : decode cX9_counts 17 = .ok (.ishr, 1) := by decide +kernel
theorem dX9_counts_18 : decode cX9_counts 18 = .ok (.iconst 1, 1) := by decide +kernel
theorem dX9_counts_19 : decode cX9_counts 19 = .ok (.iand, 1) := by decide +kernel
theorem dX9_counts_20 : decode cX9_counts 20 = .ok (.istore_n 3, 1) := by decide +kernel
theorem dX9_counts_21 : decode cX9_counts 21 = .ok (.aload_n 0, 1) := by decide +kernel
theorem dX9_counts_22 : decode cX9_counts 22 = .ok (.getfield 19, 3) := by decide +kernel
theorem dX9_counts_25 : decode cX9_counts 25 = .ok (.iload_n 2, 1) := by decide +kernel
theorem dX9_counts_26 : decode cX9_counts 26 = .ok (.ifCond .eq 17, 3) := by decide +kernel
theorem dX9_counts_29 : decode cX9_counts 29 = .ok (.aload_n 0, 1) := by decide +kernel
theorem dX9_counts_30 : decode cX9_counts 30 = .ok (.getfield 19, 3) := by decide +kernel
theorem dX9_counts_33 : decode cX9_counts 33 = .ok (.getfield 140, 3) := by decide +kernel
theorem dX9_counts_36 : decode cX9_counts 36 = .ok (.iconst 1, 1) := by decide +kernel
theorem dX9_counts_37 : decode cX9_counts 37 = .ok (.iload_n 1, 1) := by decide +kernel
theorem dX9_counts_38 : decode cX9_counts 38 = .ok (.ishl, 1) := by decide +kernel
theorem dX9_counts_39 : decode cX9_counts 39 = .ok (.ior, 1) := by decide +kernel
theorem dX9_counts_40 : decode cX9_counts 40 = .ok (.goto 16, 3) := by decide +kernel
theorem dX9_counts_43 : decode cX9_counts 43 = .ok (.aload_n 0, 1) := by decide +kernel
theorem dX9_counts_44 : decode cX9_counts 44 = .ok (.getfield 19, 3) := by decide +kernel
theorem dX9_counts_47 : decode cX9_counts 47 = .ok (.getfield 140, 3) := by decide +kernel
theorem dX9_counts_50 : decode cX9_counts 50 = .ok (.iconst 1, 1) := by decide +kernel
theorem dX9_counts_51 : decode cX9_counts 51 = .ok (.iload_n 1, 1) := by decide +kernel
theorem dX9_counts_52 : decode cX9_counts 52 = .ok (.ishl, 1) := by decide +kernel
theorem dX9_counts_53 : decode cX9_counts 53 = .ok (.iconst (-1), 1) := by decide +kernel
theorem dX9_counts_54 : decode cX9_counts 54 = .ok (.ixor, 1) := by decide +kernel
theorem dX9_counts_55 : decode cX9_counts 55 = .ok (.iand, 1) := by decide +kernel
theorem dX9_counts_56 : decode cX9_counts 56 = .ok (.putfield 140, 3) := by decide +kernel
theorem dX9_counts_59 : decode cX9_counts 59 = .ok (.iload_n 3, 1) := by decide +kernel
theorem dX9_counts_60 : decode cX9_counts 60 = .ok (.ireturn, 1) := by decide +kernel
theorem dX9_fewest_0 : decode cX9_fewest 0 = .ok (.iload_n 1, 1) := by decide +kernel
theorem dX9_fewest_1 : decode cX9_fewest 1 = .ok (.ifCond .lt 8, 3) := by decide +kernel
theorem dX9_fewest_4 : decode cX9_fewest 4 = .ok (.iload_n 1, 1) := by decide +kernel
theorem dX9_fewest_5 : decode cX9_fewest 5 = .ok (.iconst 2, 1) := by decide +kernel
theorem dX9_fewest_6 : decode cX9_fewest 6 = .ok (.if_icmp .le 5, 3) := by decide +kernel
theorem dX9_fewest_9 : decode cX9_fewest 9 = .ok (.iconst (-1), 1) := by decide +kernel
theorem dX9_fewest_10 : decode cX9_fewest 10 = .ok (.ireturn, 1) := by decide +kernel
theorem dX9_fewest_11 : decode cX9_fewest 11 = .ok (.aload_n 0, 1) := by decide +kernel
theorem dX9_fewest_12 : decode cX9_fewest 12 = .ok (.getfield 42, 3) := by decide +kernel
theorem dX9_fewest_15 : decode cX9_fewest 15 = .ok (.aload_n 0, 1) := by decide +kernel
theorem dX9_fewest_16 : decode cX9_fewest 16 = .ok (.getfield 10, 3) := by decide +kernel
theorem dX9_fewest_19 : decode cX9_fewest 19 = .ok (.aload_n 0, 1) := by decide +kernel
theorem dX9_fewest_20 : decode cX9_fewest 20 = .ok (.aload_n 0, 1) := by decide +kernel
theorem dX9_fewest_21 : decode cX9_fewest 21 = .ok (.getfield 19, 3) := by decide +kernel
theorem dX9_fewest_24 : decode cX9_fewest 24 = .ok (.getfield 137, 3) := by decide +kernel
theorem dX9_fewest_27 : decode cX9_fewest 27 = .ok (.invokevirtual 187, 3) := by decide +kernel
theorem dX9_fewest_30 : decode cX9_fewest 30 = .ok (.aload_n 0, 1) := by decide +kernel
theorem dX9_fewest_31 : decode cX9_fewest 31 = .ok (.getfield 77, 3) := by decide +kernel
theorem dX9_fewest_34 : decode cX9_fewest 34 = .ok (.invokevirtual 190, 3) := by decide +kernel
theorem dX9_fewest_37 : decode cX9_fewest 37 = .ok (.iload_n 1, 1) := by decide +kernel
theorem dX9_fewest_38 : decode cX9_fewest 38 = .ok (.ifCond .ne 11, 3) := by decide +kernel
theorem dX9_fewest_41 : decode cX9_fewest 41 = .ok (.aload_n 0, 1) := by decide +kernel
theorem dX9_fewest_42 : decode cX9_fewest 42 = .ok (.getfield 42, 3) := by decide +kernel
theorem dX9_fewest_45 : decode cX9_fewest 45 = .ok (.getfield 194, 3) := by decide +kernel
theorem dX9_fewest_48 : decode cX9_fewest 48 = .ok (.ireturn, 1) := by decide +kernel
theorem dX9_fewest_49 : decode cX9_fewest 49 = .ok (.iload_n 1, 1) := by decide +kernel
theorem dX9_fewest_50 : decode cX9_fewest 50 = .ok (.iconst 1, 1) := by decide +kernel
theorem dX9_fewest_51 : decode cX9_fewest 51 = .ok (.if_icmp .ne 13, 3) := by decide +kernel
theorem dX9_fewest_54 : decode cX9_fewest 54 = .ok (.aload_n 0, 1) := by decide +kernel
theorem dX9_fewest_55 : decode cX9_fewest 55 = .ok (.getfield 42, 3) := by decide +kernel
theorem dX9_fewest_58 : decode cX9_fewest 58 = .ok (.getfield 197, 3) := by decide +kernel
theorem dX9_fewest_61 : decode cX9_fewest 61 = .ok (.goto 10, 3) := by decide +kernel
theorem dX9_fewest_64 : decode cX9_fewest 64 = .ok (.aload_n 0, 1) := by decide +kernel
theorem dX9_fewest_65 : decode cX9_fewest 65 = .ok (.getfield 42, 3) := by decide +kernel
theorem dX9_fewest_68 : decode cX9_fewest 68 = .ok (.getfield 200, 3) := by decide +kernel
theorem dX9_fewest_71 : decode cX9_fewest 71 = .ok (.ireturn, 1) := by decide +kernel
theorem dX9_cheapest_0 : decode cX9_cheapest 0 = .ok (.iload_n 1, 1) := by decide +kernel
theorem dX9_cheapest_1 : decode cX9_cheapest 1 = .ok (.ifCond .lt 8, 3) := by decide +kernel
theorem dX9_cheapest_4 : decode cX9_cheapest 4 = .ok (.iload_n 1, 1) := by decide +kernel
theorem dX9_cheapest_5 : decode cX9_cheapest 5 = .ok (.iconst 1, 1) := by decide +kernel
theorem dX9_cheapest_6 : decode cX9_cheapest 6 = .ok (.if_icmp .le 5, 3) := by decide +kernel
theorem dX9_cheapest_9 : decode cX9_cheapest 9 = .ok (.iconst (-1), 1) := by decide +kernel
theorem dX9_cheapest_10 : decode cX9_cheapest 10 = .ok (.ireturn, 1) := by decide +kernel
theorem dX9_cheapest_11 : decode cX9_cheapest 11 = .ok (.aload_n 0, 1) := by decide +kernel
theorem dX9_cheapest_12 : decode cX9_cheapest 12 = .ok (.getfield 42, 3) := by decide +kernel
theorem dX9_cheapest_15 : decode cX9_cheapest 15 = .ok (.aload_n 0, 1) := by decide +kernel
theorem dX9_cheapest_16 : decode cX9_cheapest 16 = .ok (.getfield 10, 3) := by decide +kernel
theorem dX9_cheapest_19 : decode cX9_cheapest 19 = .ok (.aload_n 0, 1) := by decide +kernel
theorem dX9_cheapest_20 : decode cX9_cheapest 20 = .ok (.aload_n 0, 1) := by decide +kernel
theorem dX9_cheapest_21 : decode cX9_cheapest 21 = .ok (.getfield 19, 3) := by decide +kernel
theorem dX9_cheapest_24 : decode cX9_cheapest 24 = .ok (.getfield 137, 3) := by decide +kernel
theorem dX9_cheapest_27 : decode cX9_cheapest 27 = .ok (.invokevirtual 187, 3) := by decide +kernel
theorem dX9_cheapest_30 : decode cX9_cheapest 30 = .ok (.aload_n 0, 1) := by decide +kernel
theorem dX9_cheapest_31 : decode cX9_cheapest 31 = .ok (.getfield 19, 3) := by decide +kernel
theorem dX9_cheapest_34 : decode cX9_cheapest 34 = .ok (.invokevirtual 190, 3) := by decide +kernel
theorem dX9_cheapest_37 : decode cX9_cheapest 37 = .ok (.iload_n 1, 1) := by decide +kernel
theorem dX9_cheapest_38 : decode cX9_cheapest 38 = .ok (.ifCond .ne 13, 3) := by decide +kernel
theorem dX9_cheapest_41 : decode cX9_cheapest 41 = .ok (.aload_n 0, 1) := by decide +kernel
theorem dX9_cheapest_42 : decode cX9_cheapest 42 = .ok (.getfield 42, 3) := by decide +kernel
theorem dX9_cheapest_45 : decode cX9_cheapest 45 = .ok (.getfield 194, 3) := by decide +kernel
theorem dX9_cheapest_48 : decode cX9_cheapest 48 = .ok (.goto 10, 3) := by decide +kernel
theorem dX9_cheapest_51 : decode cX9_cheapest 51 = .ok (.aload_n 0, 1) := by decide +kernel
theorem dX9_cheapest_52 : decode cX9_cheapest 52 = .ok (.getfield 42, 3) := by decide +kernel
theorem dX9_cheapest_55 : decode cX9_cheapest 55 = .ok (.getfield 197, 3) := by decide +kernel
theorem dX9_cheapest_58 : decode cX9_cheapest 58 = .ok (.ireturn, 1) := by decide +kernel
theorem dX9_without_0 : decode cX9_without 0 = .ok (.iload_n 1, 1) := by decide +kernel
theorem dX9_without_1 : decode cX9_without 1 = .ok (.aload_n 0, 1) := by decide +kernel
theorem dX9_without_2 : decode cX9_without 2 = .ok (.getfield 19, 3) := by decide +kernel
theorem dX9_without_5 : decode cX9_without 5 = .ok (.getfield 137, 3) := by decide +kernel
theorem dX9_without_8 : decode cX9_without 8 = .ok (.iconst (-1), 1) := by decide +kernel
theorem dX9_without_9 : decode cX9_without 9 = .ok (.ixor, 1) := by decide +kernel
theorem dX9_without_10 : decode cX9_without 10 = .ok (.iand, 1) := by decide +kernel
theorem dX9_without_11 : decode cX9_without 11 = .ok (.ifCond .ne 21, 3) := by decide +kernel
theorem dX9_without_14 : decode cX9_without 14 = .ok (.aload_n 0, 1) := by decide +kernel
theorem dX9_without_15 : decode cX9_without 15 = .ok (.aload_n 0, 1) := by decide +kernel
theorem dX9_without_16 : decode cX9_without 16 = .ok (.getfield 19, 3) := by decide +kernel
theorem dX9_without_19 : decode cX9_without 19 = .ok (.getfield 137, 3) := by decide +kernel
theorem dX9_without_22 : decode cX9_without 22 = .ok (.iload_n 1, 1) := by decide +kernel
theorem dX9_without_23 : decode cX9_without 23 = .ok (.iconst (-1), 1) := by decide +kernel
theorem dX9_without_24 : decode cX9_without 24 = .ok (.ixor, 1) := by decide +kernel
theorem dX9_without_25 : decode cX9_without 25 = .ok (.iand, 1) := by decide +kernel
theorem dX9_without_26 : decode cX9_without 26 = .ok (.invokevirtual 178, 3) := by decide +kernel
theorem dX9_without_29 : decode cX9_without 29 = .ok (.goto 4, 3) := by decide +kernel
theorem dX9_without_32 : decode cX9_without 32 = .ok (.iconst (-1), 1) := by decide +kernel
theorem dX9_without_33 : decode cX9_without 33 = .ok (.ireturn, 1) := by decide +kernel
theorem dX9_alike_0 : decode cX9_alike 0 = .ok (.iload_n 1, 1) := by decide +kernel
theorem dX9_alike_1 : decode cX9_alike 1 = .ok (.iload_n 2, 1) := by decide +kernel
theorem dX9_alike_2 : decode cX9_alike 2 = .ok (.ior, 1) := by decide +kernel
theorem dX9_alike_3 : decode cX9_alike 3 = .ok (.aload_n 0, 1) := by decide +kernel
theorem dX9_alike_4 : decode cX9_alike 4 = .ok (.getfield 10, 3) := by decide +kernel
theorem dX9_alike_7 : decode cX9_alike 7 = .ok (.invokevirtual 84, 3) := by decide +kernel
theorem dX9_alike_10 : decode cX9_alike 10 = .ok (.iconst (-1), 1) := by decide +kernel
theorem dX9_alike_11 : decode cX9_alike 11 = .ok (.ixor, 1) := by decide +kernel
theorem dX9_alike_12 : decode cX9_alike 12 = .ok (.iand, 1) := by decide +kernel
theorem dX9_alike_13 : decode cX9_alike 13 = .ok (.ifCond .eq 5, 3) := by decide +kernel
theorem dX9_alike_16 : decode cX9_alike 16 = .ok (.iconst (-1), 1) := by decide +kernel
theorem dX9_alike_17 : decode cX9_alike 17 = .ok (.ireturn, 1) := by decide +kernel
theorem dX9_alike_18 : decode cX9_alike 18 = .ok (.aload_n 0, 1) := by decide +kernel
theorem dX9_alike_19 : decode cX9_alike 19 = .ok (.getfield 10, 3) := by decide +kernel
theorem dX9_alike_22 : decode cX9_alike 22 = .ok (.iload_n 1, 1) := by decide +kernel
theorem dX9_alike_23 : decode cX9_alike 23 = .ok (.iload_n 2, 1) := by decide +kernel
theorem dX9_alike_24 : decode cX9_alike 24 = .ok (.invokevirtual 203, 3) := by decide +kernel
theorem dX9_alike_27 : decode cX9_alike 27 = .ok (.ifCond .eq 7, 3) := by decide +kernel
theorem dX9_alike_30 : decode cX9_alike 30 = .ok (.iconst 1, 1) := by decide +kernel
theorem dX9_alike_31 : decode cX9_alike 31 = .ok (.goto 4, 3) := by decide +kernel
theorem dX9_alike_34 : decode cX9_alike 34 = .ok (.iconst 0, 1) := by decide +kernel
theorem dX9_alike_35 : decode cX9_alike 35 = .ok (.ireturn, 1) := by decide +kernel
theorem dX9_between_0 : decode cX9_between 0 = .ok (.iload_n 1, 1) := by decide +kernel
theorem dX9_between_1 : decode cX9_between 1 = .ok (.ifCond .lt 8, 3) := by decide +kernel
theorem dX9_between_4 : decode cX9_between 4 = .ok (.iload_n 1, 1) := by decide +kernel
theorem dX9_between_5 : decode cX9_between 5 = .ok (.iconst 4, 1) := by decide +kernel
theorem dX9_between_6 : decode cX9_between 6 = .ok (.if_icmp .le 5, 3) := by decide +kernel
theorem dX9_between_9 : decode cX9_between 9 = .ok (.iconst (-1), 1) := by decide +kernel
theorem dX9_between_10 : decode cX9_between 10 = .ok (.ireturn, 1) := by decide +kernel
theorem dX9_between_11 : decode cX9_between 11 = .ok (.iload_n 1, 1) := by decide +kernel
theorem dX9_between_12 : decode cX9_between 12 = .ok (.aload_n 0, 1) := by decide +kernel
theorem dX9_between_13 : decode cX9_between 13 = .ok (.getfield 19, 3) := by decide +kernel
theorem dX9_between_16 : decode cX9_between 16 = .ok (.getfield 137, 3) := by decide +kernel
theorem dX9_between_19 : decode cX9_between 19 = .ok (.invokestatic 173, 3) := by decide +kernel
theorem dX9_between_22 : decode cX9_between 22 = .ok (.if_icmp .le 6, 3) := by decide +kernel
theorem dX9_between_25 : decode cX9_between 25 = .ok (.bipush (-4), 2) := by decide +kernel
theorem dX9_between_27 : decode cX9_between 27 = .ok (.ireturn, 1) := by decide +kernel
theorem dX9_between_28 : decode cX9_between 28 = .ok (.aload_n 0, 1) := by decide +kernel
theorem dX9_between_29 : decode cX9_between 29 = .ok (.getfield 49, 3) := by decide +kernel
theorem dX9_between_32 : decode cX9_between 32 = .ok (.invokevirtual 207, 3) := by decide +kernel
theorem dX9_between_35 : decode cX9_between 35 = .ok (.aload_n 0, 1) := by decide +kernel
theorem dX9_between_36 : decode cX9_between 36 = .ok (.getfield 49, 3) := by decide +kernel
theorem dX9_between_39 : decode cX9_between 39 = .ok (.aload_n 0, 1) := by decide +kernel
theorem dX9_between_40 : decode cX9_between 40 = .ok (.getfield 10, 3) := by decide +kernel
theorem dX9_between_43 : decode cX9_between 43 = .ok (.aload_n 0, 1) := by decide +kernel
theorem dX9_between_44 : decode cX9_between 44 = .ok (.getfield 19, 3) := by decide +kernel
theorem dX9_between_47 : decode cX9_between 47 = .ok (.getfield 137, 3) := by decide +kernel
theorem dX9_between_50 : decode cX9_between 50 = .ok (.iload_n 1, 1) := by decide +kernel
theorem dX9_between_51 : decode cX9_between 51 = .ok (.aload_n 0, 1) := by decide +kernel
theorem dX9_between_52 : decode cX9_between 52 = .ok (.aload_n 0, 1) := by decide +kernel
theorem dX9_between_53 : decode cX9_between 53 = .ok (.getfield 19, 3) := by decide +kernel
theorem dX9_between_56 : decode cX9_between 56 = .ok (.getfield 137, 3) := by decide +kernel
theorem dX9_between_59 : decode cX9_between 59 = .ok (.invokevirtual 187, 3) := by decide +kernel
theorem dX9_between_62 : decode cX9_between 62 = .ok (.invokevirtual 210, 3) := by decide +kernel
theorem dX9_between_65 : decode cX9_between 65 = .ok (.aload_n 0, 1) := by decide +kernel
theorem dX9_between_66 : decode cX9_between 66 = .ok (.getfield 49, 3) := by decide +kernel
theorem dX9_between_69 : decode cX9_between 69 = .ok (.getfield 214, 3) := by decide +kernel
theorem dX9_between_72 : decode cX9_between 72 = .ok (.ireturn, 1) := by decide +kernel
theorem dX9_just_0 : decode cX9_just 0 = .ok (.iload_n 1, 1) := by decide +kernel
theorem dX9_just_1 : decode cX9_just 1 = .ok (.ifCond .lt 27, 3) := by decide +kernel
theorem dX9_just_4 : decode cX9_just 4 = .ok (.iload_n 1, 1) := by decide +kernel
theorem dX9_just_5 : decode cX9_just 5 = .ok (.iconst 4, 1) := by decide +kernel
theorem dX9_just_6 : decode cX9_just 6 = .ok (.if_icmp .gt 22, 3) := by decide +kernel
theorem dX9_just_9 : decode cX9_just 9 = .ok (.iload_n 2, 1) := by decide +kernel
theorem dX9_just_10 : decode cX9_just 10 = .ok (.ifCond .lt 18, 3) := by decide +kernel
theorem dX9_just_13 : decode cX9_just 13 = .ok (.iload_n 2, 1) := by decide +kernel
theorem dX9_just_14 : decode cX9_just 14 = .ok (.bipush 20, 2) := by decide +kernel
theorem dX9_just_16 : decode cX9_just 16 = .ok (.if_icmp .gt 12, 3) := by decide +kernel
theorem dX9_just_19 : decode cX9_just 19 = .ok (.iload_n 3, 1) := by decide +kernel
theorem dX9_just_20 : decode cX9_just 20 = .ok (.ifCond .lt 8, 3) := by decide +kernel
theorem dX9_just_23 : decode cX9_just 23 = .ok (.iload_n 3, 1) := by decide +kernel
theorem dX9_just_24 : decode cX9_just 24 = .ok (.iconst 1, 1) := by decide +kernel
theorem dX9_just_25 : decode cX9_just 25 = .ok (.if_icmp .le 5, 3) := by decide +kernel
theorem dX9_just_28 : decode cX9_just 28 = .ok (.iconst (-1), 1) := by decide +kernel
theorem dX9_just_29 : decode cX9_just 29 = .ok (.ireturn, 1) := by decide +kernel
theorem dX9_just_30 : decode cX9_just 30 = .ok (.aload_n 0, 1) := by decide +kernel
theorem dX9_just_31 : decode cX9_just 31 = .ok (.getfield 49, 3) := by decide +kernel
theorem dX9_just_34 : decode cX9_just 34 = .ok (.invokevirtual 207, 3) := by decide +kernel
theorem dX9_just_37 : decode cX9_just 37 = .ok (.aload_n 0, 1) := by decide +kernel
theorem dX9_just_38 : decode cX9_just 38 = .ok (.getfield 49, 3) := by decide +kernel
theorem dX9_just_41 : decode cX9_just 41 = .ok (.aload_n 0, 1) := by decide +kernel
theorem dX9_just_42 : decode cX9_just 42 = .ok (.aload_n 0, 1) := by decide +kernel
theorem dX9_just_43 : decode cX9_just 43 = .ok (.getfield 19, 3) := by decide +kernel
theorem dX9_just_46 : decode cX9_just 46 = .ok (.getfield 137, 3) := by decide +kernel
theorem dX9_just_49 : decode cX9_just 49 = .ok (.invokevirtual 187, 3) := by decide +kernel
theorem dX9_just_52 : decode cX9_just 52 = .ok (.iload_n 2, 1) := by decide +kernel
theorem dX9_just_53 : decode cX9_just 53 = .ok (.invokevirtual 217, 3) := by decide +kernel
theorem dX9_just_56 : decode cX9_just 56 = .ok (.aload_n 0, 1) := by decide +kernel
theorem dX9_just_57 : decode cX9_just 57 = .ok (.getfield 49, 3) := by decide +kernel
theorem dX9_just_60 : decode cX9_just 60 = .ok (.aload_n 0, 1) := by decide +kernel
theorem dX9_just_61 : decode cX9_just 61 = .ok (.getfield 10, 3) := by decide +kernel
theorem dX9_just_64 : decode cX9_just 64 = .ok (.aload_n 0, 1) := by decide +kernel
theorem dX9_just_65 : decode cX9_just 65 = .ok (.getfield 19, 3) := by decide +kernel
theorem dX9_just_68 : decode cX9_just 68 = .ok (.getfield 137, 3) := by decide +kernel
theorem dX9_just_71 : decode cX9_just 71 = .ok (.iload_n 1, 1) := by decide +kernel
theorem dX9_just_72 : decode cX9_just 72 = .ok (.iconst 0, 1) := by decide +kernel
theorem dX9_just_73 : decode cX9_just 73 = .ok (.invokevirtual 210, 3) := by decide +kernel
theorem dX9_just_76 : decode cX9_just 76 = .ok (.iload_n 3, 1) := by decide +kernel
theorem dX9_just_77 : decode cX9_just 77 = .ok (.ifCond .ne 11, 3) := by decide +kernel
theorem dX9_just_80 : decode cX9_just 80 = .ok (.aload_n 0, 1) := by decide +kernel
theorem dX9_just_81 : decode cX9_just 81 = .ok (.getfield 49, 3) := by decide +kernel
theorem dX9_just_84 : decode cX9_just 84 = .ok (.getfield 220, 3) := by decide +kernel
theorem dX9_just_87 : decode cX9_just 87 = .ok (.ireturn, 1) := by decide +kernel
theorem dX9_just_88 : decode cX9_just 88 = .ok (.aload_n 0, 1) := by decide +kernel
theorem dX9_just_89 : decode cX9_just 89 = .ok (.getfield 49, 3) := by decide +kernel
theorem dX9_just_92 : decode cX9_just 92 = .ok (.getfield 220, 3) := by decide +kernel
theorem dX9_just_95 : decode cX9_just 95 = .ok (.ifCond .ne 8, 3) := by decide +kernel
theorem dX9_just_98 : decode cX9_just 98 = .ok (.bipush (-4), 2) := by decide +kernel
theorem dX9_just_100 : decode cX9_just 100 = .ok (.goto 10, 3) := by decide +kernel
theorem dX9_just_103 : decode cX9_just 103 = .ok (.aload_n 0, 1) := by decide +kernel
theorem dX9_just_104 : decode cX9_just 104 = .ok (.getfield 49, 3) := by decide +kernel
theorem dX9_just_107 : decode cX9_just 107 = .ok (.getfield 223, 3) := by decide +kernel
theorem dX9_just_110 : decode cX9_just 110 = .ok (.ireturn, 1) := by decide +kernel
theorem dX9_riddle_0 : decode cX9_riddle 0 = .ok (.iload_n 1, 1) := by decide +kernel
theorem dX9_riddle_1 : decode cX9_riddle 1 = .ok (.iconst 1, 1) := by decide +kernel
theorem dX9_riddle_2 : decode cX9_riddle 2 = .ok (.if_icmp .lt 27, 3) := by decide +kernel
theorem dX9_riddle_5 : decode cX9_riddle 5 = .ok (.iload_n 1, 1) := by decide +kernel
theorem dX9_riddle_6 : decode cX9_riddle 6 = .ok (.iconst 2, 1) := by decide +kernel
theorem dX9_riddle_7 : decode cX9_riddle 7 = .ok (.if_icmp .gt 22, 3) := by decide +kernel
theorem dX9_riddle_10 : decode cX9_riddle 10 = .ok (.iload_n 2, 1) := by decide +kernel
theorem dX9_riddle_11 : decode cX9_riddle 11 = .ok (.ifCond .lt 18, 3) := by decide +kernel
theorem dX9_riddle_14 : decode cX9_riddle 14 = .ok (.iload_n 2, 1) := by decide +kernel
theorem dX9_riddle_15 : decode cX9_riddle 15 = .ok (.bipush 20, 2) := by decide +kernel
theorem dX9_riddle_17 : decode cX9_riddle 17 = .ok (.if_icmp .gt 12, 3) := by decide +kernel
theorem dX9_riddle_20 : decode cX9_riddle 20 = .ok (.iload_n 3, 1) := by decide +kernel
theorem dX9_riddle_21 : decode cX9_riddle 21 = .ok (.ifCond .lt 8, 3) := by decide +kernel
theorem dX9_riddle_24 : decode cX9_riddle 24 = .ok (.iload_n 3, 1) := by decide +kernel
theorem dX9_riddle_25 : decode cX9_riddle 25 = .ok (.iconst 2, 1) := by decide +kernel
theorem dX9_riddle_26 : decode cX9_riddle 26 = .ok (.if_icmp .le 5, 3) := by decide +kernel
theorem dX9_riddle_29 : decode cX9_riddle 29 = .ok (.iconst (-1), 1) := by decide +kernel
theorem dX9_riddle_30 : decode cX9_riddle 30 = .ok (.ireturn, 1) := by decide +kernel
theorem dX9_riddle_31 : decode cX9_riddle 31 = .ok (.aload_n 0, 1) := by decide +kernel
theorem dX9_riddle_32 : decode cX9_riddle 32 = .ok (.getfield 56, 3) := by decide +kernel
theorem dX9_riddle_35 : decode cX9_riddle 35 = .ok (.aload_n 0, 1) := by decide +kernel
theorem dX9_riddle_36 : decode cX9_riddle 36 = .ok (.getfield 10, 3) := by decide +kernel
theorem dX9_riddle_39 : decode cX9_riddle 39 = .ok (.aload_n 0, 1) := by decide +kernel
theorem dX9_riddle_40 : decode cX9_riddle 40 = .ok (.getfield 19, 3) := by decide +kernel
theorem dX9_riddle_43 : decode cX9_riddle 43 = .ok (.getfield 137, 3) := by decide +kernel
theorem dX9_riddle_46 : decode cX9_riddle 46 = .ok (.aload_n 0, 1) := by decide +kernel
theorem dX9_riddle_47 : decode cX9_riddle 47 = .ok (.invokevirtual 224, 3) := by decide +kernel
theorem dX9_riddle_50 : decode cX9_riddle 50 = .ok (.iload_n 1, 1) := by decide +kernel
theorem dX9_riddle_51 : decode cX9_riddle 51 = .ok (.iload_n 2, 1) := by decide +kernel
theorem dX9_riddle_52 : decode cX9_riddle 52 = .ok (.invokevirtual 227, 3) := by decide +kernel
theorem dX9_riddle_55 : decode cX9_riddle 55 = .ok (.iload_n 3, 1) := by decide +kernel
theorem dX9_riddle_56 : decode cX9_riddle 56 = .ok (.ifCond .ne 11, 3) := by decide +kernel
theorem dX9_riddle_59 : decode cX9_riddle 59 = .ok (.aload_n 0, 1) := by decide +kernel
theorem dX9_riddle_60 : decode cX9_riddle 60 = .ok (.getfield 56, 3) := by decide +kernel
theorem dX9_riddle_63 : decode cX9_riddle 63 = .ok (.getfield 231, 3) := by decide +kernel
theorem dX9_riddle_66 : decode cX9_riddle 66 = .ok (.ireturn, 1) := by decide +kernel
theorem dX9_riddle_67 : decode cX9_riddle 67 = .ok (.aload_n 0, 1) := by decide +kernel
theorem dX9_riddle_68 : decode cX9_riddle 68 = .ok (.getfield 56, 3) := by decide +kernel
theorem dX9_riddle_71 : decode cX9_riddle 71 = .ok (.getfield 231, 3) := by decide +kernel
theorem dX9_riddle_74 : decode cX9_riddle 74 = .ok (.ifCond .ne 6, 3) := by decide +kernel
theorem dX9_riddle_77 : decode cX9_riddle 77 = .ok (.bipush (-4), 2) := by decide +kernel
theorem dX9_riddle_79 : decode cX9_riddle 79 = .ok (.ireturn, 1) := by decide +kernel
theorem dX9_riddle_80 : decode cX9_riddle 80 = .ok (.iload_n 3, 1) := by decide +kernel
theorem dX9_riddle_81 : decode cX9_riddle 81 = .ok (.iconst 1, 1) := by decide +kernel
theorem dX9_riddle_82 : decode cX9_riddle 82 = .ok (.if_icmp .ne 13, 3) := by decide +kernel
theorem dX9_riddle_85 : decode cX9_riddle 85 = .ok (.aload_n 0, 1) := by decide +kernel
theorem dX9_riddle_86 : decode cX9_riddle 86 = .ok (.getfield 56, 3) := by decide +kernel
theorem dX9_riddle_89 : decode cX9_riddle 89 = .ok (.getfield 232, 3) := by decide +kernel
theorem dX9_riddle_92 : decode cX9_riddle 92 = .ok (.goto 10, 3) := by decide +kernel
theorem dX9_riddle_95 : decode cX9_riddle 95 = .ok (.aload_n 0, 1) := by decide +kernel
theorem dX9_riddle_96 : decode cX9_riddle 96 = .ok (.getfield 56, 3) := by decide +kernel
theorem dX9_riddle_99 : decode cX9_riddle 99 = .ok (.getfield 235, 3) := by decide +kernel
theorem dX9_riddle_102 : decode cX9_riddle 102 = .ok (.ireturn, 1) := by decide +kernel
theorem dX9_taking_0 : decode cX9_taking 0 = .ok (.iload_n 1, 1) := by decide +kernel
theorem dX9_taking_1 : decode cX9_taking 1 = .ok (.ifCond .lt 8, 3) := by decide +kernel
theorem dX9_taking_4 : decode cX9_taking 4 = .ok (.iload_n 1, 1) := by decide +kernel
theorem dX9_taking_5 : decode cX9_taking 5 = .ok (.iconst 1, 1) := by decide +kernel
theorem dX9_taking_6 : decode cX9_taking 6 = .ok (.if_icmp .le 5, 3) := by decide +kernel
theorem dX9_taking_9 : decode cX9_taking 9 = .ok (.iconst (-1), 1) := by decide +kernel
theorem dX9_taking_10 : decode cX9_taking 10 = .ok (.ireturn, 1) := by decide +kernel
theorem dX9_taking_11 : decode cX9_taking 11 = .ok (.aload_n 0, 1) := by decide +kernel
theorem dX9_taking_12 : decode cX9_taking 12 = .ok (.aload_n 0, 1) := by decide +kernel
theorem dX9_taking_13 : decode cX9_taking 13 = .ok (.getfield 19, 3) := by decide +kernel
theorem dX9_taking_16 : decode cX9_taking 16 = .ok (.getfield 137, 3) := by decide +kernel
theorem dX9_taking_19 : decode cX9_taking 19 = .ok (.invokevirtual 187, 3) := by decide +kernel
theorem dX9_taking_22 : decode cX9_taking 22 = .ok (.istore_n 2, 1) := by decide +kernel
theorem dX9_taking_23 : decode cX9_taking 23 = .ok (.iload_n 2, 1) := by decide +kernel
theorem dX9_taking_24 : decode cX9_taking 24 = .ok (.ifCond .eq 18, 3) := by decide +kernel
theorem dX9_taking_27 : decode cX9_taking 27 = .ok (.aload_n 0, 1) := by decide +kernel
theorem dX9_taking_28 : decode cX9_taking 28 = .ok (.getfield 19, 3) := by decide +kernel
theorem dX9_taking_31 : decode cX9_taking 31 = .ok (.getfield 137, 3) := by decide +kernel
theorem dX9_taking_34 : decode cX9_taking 34 = .ok (.invokestatic 173, 3) := by decide +kernel
theorem dX9_taking_37 : decode cX9_taking 37 = .ok (.bipush 12, 2) := by decide +kernel
theorem dX9_taking_39 : decode cX9_taking 39 = .ok (.if_icmp .le 6, 3) := by decide +kernel
theorem dX9_taking_42 : decode cX9_taking 42 = .ok (.bipush (-2), 2) := by decide +kernel
theorem dX9_taking_44 : decode cX9_taking 44 = .ok (.ireturn, 1) := by decide +kernel
theorem dX9_taking_45 : decode cX9_taking 45 = .ok (.aload_n 0, 1) := by decide +kernel
theorem dX9_taking_46 : decode cX9_taking 46 = .ok (.getfield 63, 3) := by decide +kernel
theorem dX9_taking_49 : decode cX9_taking 49 = .ok (.aload_n 0, 1) := by decide +kernel
theorem dX9_taking_50 : decode cX9_taking 50 = .ok (.getfield 10, 3) := by decide +kernel
theorem dX9_taking_53 : decode cX9_taking 53 = .ok (.iload_n 2, 1) := by decide +kernel
theorem dX9_taking_54 : decode cX9_taking 54 = .ok (.aload_n 0, 1) := by decide +kernel
theorem dX9_taking_55 : decode cX9_taking 55 = .ok (.getfield 19, 3) := by decide +kernel
theorem dX9_taking_58 : decode cX9_taking 58 = .ok (.getfield 137, 3) := by decide +kernel
theorem dX9_taking_61 : decode cX9_taking 61 = .ok (.invokevirtual 238, 3) := by decide +kernel
theorem dX9_taking_64 : decode cX9_taking 64 = .ok (.iload_n 1, 1) := by decide +kernel
theorem dX9_taking_65 : decode cX9_taking 65 = .ok (.ifCond .ne 21, 3) := by decide +kernel
theorem dX9_taking_68 : decode cX9_taking 68 = .ok (.aload_n 0, 1) := by decide +kernel
theorem dX9_taking_69 : decode cX9_taking 69 = .ok (.getfield 63, 3) := by decide +kernel
theorem dX9_taking_72 : decode cX9_taking 72 = .ok (.getfield 242, 3) := by decide +kernel
theorem dX9_taking_75 : decode cX9_taking 75 = .ok (.bipush (-4), 2) := by decide +kernel
theorem dX9_taking_77 : decode cX9_taking 77 = .ok (.if_icmp .ne 7, 3) := by decide +kernel
theorem dX9_taking_80 : decode cX9_taking 80 = .ok (.iconst 2, 1) := by decide +kernel
theorem dX9_taking_81 : decode cX9_taking 81 = .ok (.goto 4, 3) := by decide +kernel
theorem dX9_taking_84 : decode cX9_taking 84 = .ok (.iconst 1, 1) := by decide +kernel
theorem dX9_taking_85 : decode cX9_taking 85 = .ok (.ireturn, 1) := by decide +kernel
theorem dX9_taking_86 : decode cX9_taking 86 = .ok (.aload_n 0, 1) := by decide +kernel
theorem dX9_taking_87 : decode cX9_taking 87 = .ok (.getfield 63, 3) := by decide +kernel
theorem dX9_taking_90 : decode cX9_taking 90 = .ok (.getfield 242, 3) := by decide +kernel
theorem dX9_taking_93 : decode cX9_taking 93 = .ok (.ireturn, 1) := by decide +kernel
theorem dX9_laying_0 : decode cX9_laying 0 = .ok (.iload_n 1, 1) := by decide +kernel
theorem dX9_laying_1 : decode cX9_laying 1 = .ok (.ifCond .lt 8, 3) := by decide +kernel
theorem dX9_laying_4 : decode cX9_laying 4 = .ok (.iload_n 1, 1) := by decide +kernel
theorem dX9_laying_5 : decode cX9_laying 5 = .ok (.iconst 1, 1) := by decide +kernel
theorem dX9_laying_6 : decode cX9_laying 6 = .ok (.if_icmp .le 5, 3) := by decide +kernel
theorem dX9_laying_9 : decode cX9_laying 9 = .ok (.iconst (-1), 1) := by decide +kernel
theorem dX9_laying_10 : decode cX9_laying 10 = .ok (.ireturn, 1) := by decide +kernel
theorem dX9_laying_11 : decode cX9_laying 11 = .ok (.aload_n 0, 1) := by decide +kernel
theorem dX9_laying_12 : decode cX9_laying 12 = .ok (.getfield 10, 3) := by decide +kernel
theorem dX9_laying_15 : decode cX9_laying 15 = .ok (.invokevirtual 84, 3) := by decide +kernel
theorem dX9_laying_18 : decode cX9_laying 18 = .ok (.aload_n 0, 1) := by decide +kernel
theorem dX9_laying_19 : decode cX9_laying 19 = .ok (.getfield 19, 3) := by decide +kernel
theorem dX9_laying_22 : decode cX9_laying 22 = .ok (.getfield 137, 3) := by decide +kernel
theorem dX9_laying_25 : decode cX9_laying 25 = .ok (.iconst (-1), 1) := by decide +kernel
theorem dX9_laying_26 : decode cX9_laying 26 = .ok (.ixor, 1) := by decide +kernel
theorem dX9_laying_27 : decode cX9_laying 27 = .ok (.iand, 1) := by decide +kernel
theorem dX9_laying_28 : decode cX9_laying 28 = .ok (.istore_n 2, 1) := by decide +kernel
theorem dX9_laying_29 : decode cX9_laying 29 = .ok (.iload_n 2, 1) := by decide +kernel
theorem dX9_laying_30 : decode cX9_laying 30 = .ok (.invokestatic 245, 3) := by decide +kernel
theorem dX9_laying_33 : decode cX9_laying 33 = .ok (.ifCond .ne 6, 3) := by decide +kernel
theorem dX9_laying_36 : decode cX9_laying 36 = .ok (.bipush (-2), 2) := by decide +kernel
theorem dX9_laying_38 : decode cX9_laying 38 = .ok (.ireturn, 1) := by decide +kernel
theorem dX9_laying_39 : decode cX9_laying 39 = .ok (.aload_n 0, 1) := by decide +kernel
theorem dX9_laying_40 : decode cX9_laying 40 = .ok (.getfield 63, 3) := by decide +kernel
theorem dX9_laying_43 : decode cX9_laying 43 = .ok (.aload_n 0, 1) := by decide +kernel
theorem dX9_laying_44 : decode cX9_laying 44 = .ok (.getfield 10, 3) := by decide +kernel
theorem dX9_laying_47 : decode cX9_laying 47 = .ok (.aload_n 0, 1) := by decide +kernel
theorem dX9_laying_48 : decode cX9_laying 48 = .ok (.invokevirtual 224, 3) := by decide +kernel
theorem dX9_laying_51 : decode cX9_laying 51 = .ok (.iload_n 2, 1) := by decide +kernel
theorem dX9_laying_52 : decode cX9_laying 52 = .ok (.iconst 0, 1) := by decide +kernel
theorem dX9_laying_53 : decode cX9_laying 53 = .ok (.invokevirtual 248, 3) := by decide +kernel
theorem dX9_laying_56 : decode cX9_laying 56 = .ok (.iload_n 1, 1) := by decide +kernel
theorem dX9_laying_57 : decode cX9_laying 57 = .ok (.iconst 1, 1) := by decide +kernel
theorem dX9_laying_58 : decode cX9_laying 58 = .ok (.if_icmp .ne 11, 3) := by decide +kernel
theorem dX9_laying_61 : decode cX9_laying 61 = .ok (.aload_n 0, 1) := by decide +kernel
theorem dX9_laying_62 : decode cX9_laying 62 = .ok (.getfield 63, 3) := by decide +kernel
theorem dX9_laying_65 : decode cX9_laying 65 = .ok (.getfield 242, 3) := by decide +kernel
theorem dX9_laying_68 : decode cX9_laying 68 = .ok (.ireturn, 1) := by decide +kernel
theorem dX9_laying_69 : decode cX9_laying 69 = .ok (.aload_n 0, 1) := by decide +kernel
theorem dX9_laying_70 : decode cX9_laying 70 = .ok (.getfield 63, 3) := by decide +kernel
theorem dX9_laying_73 : decode cX9_laying 73 = .ok (.getfield 252, 3) := by decide +kernel
theorem dX9_laying_76 : decode cX9_laying 76 = .ok (.ifCond .ge 7, 3) := by decide +kernel
theorem dX9_laying_79 : decode cX9_laying 79 = .ok (.iconst 2, 1) := by decide +kernel
theorem dX9_laying_80 : decode cX9_laying 80 = .ok (.goto 10, 3) := by decide +kernel
theorem dX9_laying_83 : decode cX9_laying 83 = .ok (.aload_n 0, 1) := by decide +kernel
theorem dX9_laying_84 : decode cX9_laying 84 = .ok (.getfield 63, 3) := by decide +kernel
theorem dX9_laying_87 : decode cX9_laying 87 = .ok (.getfield 252, 3) := by decide +kernel
theorem dX9_laying_90 : decode cX9_laying 90 = .ok (.ireturn, 1) := by decide +kernel
theorem dX9_boxes_0 : decode cX9_boxes 0 = .ok (.iload_n 1, 1) := by decide +kernel
theorem dX9_boxes_1 : decode cX9_boxes 1 = .ok (.ifCond .lt 8, 3) := by decide +kernel
theorem dX9_boxes_4 : decode cX9_boxes 4 = .ok (.iload_n 1, 1) := by decide +kernel
theorem dX9_boxes_5 : decode cX9_boxes 5 = .ok (.iconst 1, 1) := by decide +kernel
theorem dX9_boxes_6 : decode cX9_boxes 6 = .ok (.if_icmp .le 5, 3) := by decide +kernel
theorem dX9_boxes_9 : decode cX9_boxes 9 = .ok (.iconst (-1), 1) := by decide +kernel
theorem dX9_boxes_10 : decode cX9_boxes 10 = .ok (.ireturn, 1) := by decide +kernel
theorem dX9_boxes_11 : decode cX9_boxes 11 = .ok (.aload_n 0, 1) := by decide +kernel
theorem dX9_boxes_12 : decode cX9_boxes 12 = .ok (.getfield 10, 3) := by decide +kernel
theorem dX9_boxes_15 : decode cX9_boxes 15 = .ok (.invokevirtual 84, 3) := by decide +kernel
theorem dX9_boxes_18 : decode cX9_boxes 18 = .ok (.aload_n 0, 1) := by decide +kernel
theorem dX9_boxes_19 : decode cX9_boxes 19 = .ok (.getfield 19, 3) := by decide +kernel
theorem dX9_boxes_22 : decode cX9_boxes 22 = .ok (.getfield 137, 3) := by decide +kernel
theorem dX9_boxes_25 : decode cX9_boxes 25 = .ok (.iconst (-1), 1) := by decide +kernel
theorem dX9_boxes_26 : decode cX9_boxes 26 = .ok (.ixor, 1) := by decide +kernel
theorem dX9_boxes_27 : decode cX9_boxes 27 = .ok (.iand, 1) := by decide +kernel
theorem dX9_boxes_28 : decode cX9_boxes 28 = .ok (.istore_n 2, 1) := by decide +kernel
theorem dX9_boxes_29 : decode cX9_boxes 29 = .ok (.iload_n 2, 1) := by decide +kernel
theorem dX9_boxes_30 : decode cX9_boxes 30 = .ok (.invokestatic 245, 3) := by decide +kernel
theorem dX9_boxes_33 : decode cX9_boxes 33 = .ok (.ifCond .ne 6, 3) := by decide +kernel
theorem dX9_boxes_36 : decode cX9_boxes 36 = .ok (.bipush (-2), 2) := by decide +kernel
theorem dX9_boxes_38 : decode cX9_boxes 38 = .ok (.ireturn, 1) := by decide +kernel
theorem dX9_boxes_39 : decode cX9_boxes 39 = .ok (.aload_n 0, 1) := by decide +kernel
theorem dX9_boxes_40 : decode cX9_boxes 40 = .ok (.getfield 63, 3) := by decide +kernel
theorem dX9_boxes_43 : decode cX9_boxes 43 = .ok (.aload_n 0, 1) := by decide +kernel
theorem dX9_boxes_44 : decode cX9_boxes 44 = .ok (.getfield 10, 3) := by decide +kernel
theorem dX9_boxes_47 : decode cX9_boxes 47 = .ok (.aload_n 0, 1) := by decide +kernel
theorem dX9_boxes_48 : decode cX9_boxes 48 = .ok (.invokevirtual 224, 3) := by decide +kernel
theorem dX9_boxes_51 : decode cX9_boxes 51 = .ok (.iload_n 2, 1) := by decide +kernel
theorem dX9_boxes_52 : decode cX9_boxes 52 = .ok (.iconst 1, 1) := by decide +kernel
theorem dX9_boxes_53 : decode cX9_boxes 53 = .ok (.invokevirtual 248, 3) := by decide +kernel
theorem dX9_boxes_56 : decode cX9_boxes 56 = .ok (.iload_n 1, 1) := by decide +kernel
theorem dX9_boxes_57 : decode cX9_boxes 57 = .ok (.ifCond .ne 16, 3) := by decide +kernel
theorem dX9_boxes_60 : decode cX9_boxes 60 = .ok (.aload_n 0, 1) := by decide +kernel
theorem dX9_boxes_61 : decode cX9_boxes 61 = .ok (.getfield 63, 3) := by decide +kernel
theorem dX9_boxes_64 : decode cX9_boxes 64 = .ok (.getfield 252, 3) := by decide +kernel
theorem dX9_boxes_67 : decode cX9_boxes 67 = .ok (.bipush 100, 2) := by decide +kernel
theorem dX9_boxes_69 : decode cX9_boxes 69 = .ok (.iadd, 1) := by decide +kernel
theorem dX9_boxes_70 : decode cX9_boxes 70 = .ok (.goto 10, 3) := by decide +kernel
theorem dX9_boxes_73 : decode cX9_boxes 73 = .ok (.aload_n 0, 1) := by decide +kernel
theorem dX9_boxes_74 : decode cX9_boxes 74 = .ok (.getfield 63, 3) := by decide +kernel
theorem dX9_boxes_77 : decode cX9_boxes 77 = .ok (.getfield 242, 3) := by decide +kernel
theorem dX9_boxes_80 : decode cX9_boxes 80 = .ok (.ireturn, 1) := by decide +kernel
theorem dX9_mean_0 : decode cX9_mean 0 = .ok (.iload_n 1, 1) := by decide +kernel
theorem dX9_mean_1 : decode cX9_mean 1 = .ok (.ifCond .lt 8, 3) := by decide +kernel
theorem dX9_mean_4 : decode cX9_mean 4 = .ok (.iload_n 1, 1) := by decide +kernel
theorem dX9_mean_5 : decode cX9_mean 5 = .ok (.iconst 1, 1) := by decide +kernel
theorem dX9_mean_6 : decode cX9_mean 6 = .ok (.if_icmp .le 7, 3) := by decide +kernel
theorem dX9_mean_9 : decode cX9_mean 9 = .ok (.ldc2_w 255, 3) := by decide +kernel
theorem dX9_mean_12 : decode cX9_mean 12 = .ok (.lreturn, 1) := by decide +kernel
theorem dX9_mean_13 : decode cX9_mean 13 = .ok (.aload_n 0, 1) := by decide +kernel
theorem dX9_mean_14 : decode cX9_mean 14 = .ok (.aload_n 0, 1) := by decide +kernel
theorem dX9_mean_15 : decode cX9_mean 15 = .ok (.getfield 19, 3) := by decide +kernel
theorem dX9_mean_18 : decode cX9_mean 18 = .ok (.getfield 137, 3) := by decide +kernel
theorem dX9_mean_21 : decode cX9_mean 21 = .ok (.invokevirtual 187, 3) := by decide +kernel
theorem dX9_mean_24 : decode cX9_mean 24 = .ok (.istore_n 2, 1) := by decide +kernel
theorem dX9_mean_25 : decode cX9_mean 25 = .ok (.lconst 0, 1) := by decide +kernel
theorem dX9_mean_26 : decode cX9_mean 26 = .ok (.lstore_n 3, 1) := by decide +kernel
theorem dX9_mean_27 : decode cX9_mean 27 = .ok (.iconst 1, 1) := by decide +kernel
theorem dX9_mean_28 : decode cX9_mean 28 = .ok (.istore 5, 2) := by decide +kernel
theorem dX9_mean_30 : decode cX9_mean 30 = .ok (.iload 5, 2) := by decide +kernel
theorem dX9_mean_32 : decode cX9_mean 32 = .ok (.iconst 3, 1) := by decide +kernel
theorem dX9_mean_33 : decode cX9_mean 33 = .ok (.if_icmp .gt 41, 3) := by decide +kernel
theorem dX9_mean_36 : decode cX9_mean 36 = .ok (.lconst 1, 1) := by decide +kernel
theorem dX9_mean_37 : decode cX9_mean 37 = .ok (.iconst 4, 1) := by decide +kernel
theorem dX9_mean_38 : decode cX9_mean 38 = .ok (.iconst 3, 1) := by decide +kernel
theorem dX9_mean_39 : decode cX9_mean 39 = .ok (.iload 5, 2) := by decide +kernel
theorem dX9_mean_41 : decode cX9_mean 41 = .ok (.isub, 1) := by decide +kernel
theorem dX9_mean_42 : decode cX9_mean 42 = .ok (.imul, 1) := by decide +kernel
theorem dX9_mean_43 : decode cX9_mean 43 = .ok (.lshl, 1) := by decide +kernel
theorem dX9_mean_44 : decode cX9_mean 44 = .ok (.lstore 6, 2) := by decide +kernel
theorem dX9_mean_46 : decode cX9_mean 46 = .ok (.lload_n 3, 1) := by decide +kernel
theorem dX9_mean_47 : decode cX9_mean 47 = .ok (.lload 6, 2) := by decide +kernel
theorem dX9_mean_49 : decode cX9_mean 49 = .ok (.iload_n 2, 1) := by decide +kernel
theorem dX9_mean_50 : decode cX9_mean 50 = .ok (.aload_n 0, 1) := by decide +kernel
theorem dX9_mean_51 : decode cX9_mean 51 = .ok (.getfield 10, 3) := by decide +kernel
theorem dX9_mean_54 : decode cX9_mean 54 = .ok (.getfield 170, 3) := by decide +kernel
theorem dX9_mean_57 : decode cX9_mean 57 = .ok (.iload 5, 2) := by decide +kernel
theorem dX9_mean_59 : decode cX9_mean 59 = .ok (.iaload, 1) := by decide +kernel
theorem dX9_mean_60 : decode cX9_mean 60 = .ok (.iand, 1) := by decide +kernel
theorem dX9_mean_61 : decode cX9_mean 61 = .ok (.invokestatic 173, 3) := by decide +kernel
theorem dX9_mean_64 : decode cX9_mean 64 = .ok (.i2l, 1) := by decide +kernel
theorem dX9_mean_65 : decode cX9_mean 65 = .ok (.lmul, 1) := by decide +kernel
theorem dX9_mean_66 : decode cX9_mean 66 = .ok (.ladd, 1) := by decide +kernel
theorem dX9_mean_67 : decode cX9_mean 67 = .ok (.lstore_n 3, 1) := by decide +kernel
theorem dX9_mean_68 : decode cX9_mean 68 = .ok (.iinc 5 1, 3) := by decide +kernel
theorem dX9_mean_71 : decode cX9_mean 71 = .ok (.goto (-41), 3) := by decide +kernel
theorem dX9_mean_74 : decode cX9_mean 74 = .ok (.lload_n 3, 1) := by decide +kernel
theorem dX9_mean_75 : decode cX9_mean 75 = .ok (.bipush 12, 2) := by decide +kernel
theorem dX9_mean_77 : decode cX9_mean 77 = .ok (.iload_n 1, 1) := by decide +kernel
theorem dX9_mean_78 : decode cX9_mean 78 = .ok (.invokestatic 257, 3) := by decide +kernel
theorem dX9_mean_81 : decode cX9_mean 81 = .ok (.lreturn, 1) := by decide +kernel
theorem dX9_chance_0 : decode cX9_chance 0 = .ok (.iload_n 1, 1) := by decide +kernel
theorem dX9_chance_1 : decode cX9_chance 1 = .ok (.ifCond .lt 8, 3) := by decide +kernel
theorem dX9_chance_4 : decode cX9_chance 4 = .ok (.iload_n 1, 1) := by decide +kernel
theorem dX9_chance_5 : decode cX9_chance 5 = .ok (.iconst 1, 1) := by decide +kernel
theorem dX9_chance_6 : decode cX9_chance 6 = .ok (.if_icmp .le 7, 3) := by decide +kernel
theorem dX9_chance_9 : decode cX9_chance 9 = .ok (.ldc2_w 255, 3) := by decide +kernel
theorem dX9_chance_12 : decode cX9_chance 12 = .ok (.lreturn, 1) := by decide +kernel
theorem dX9_chance_13 : decode cX9_chance 13 = .ok (.aload_n 0, 1) := by decide +kernel
theorem dX9_chance_14 : decode cX9_chance 14 = .ok (.getfield 19, 3) := by decide +kernel
theorem dX9_chance_17 : decode cX9_chance 17 = .ok (.getfield 137, 3) := by decide +kernel
theorem dX9_chance_20 : decode cX9_chance 20 = .ok (.invokestatic 173, 3) := by decide +kernel
theorem dX9_chance_23 : decode cX9_chance 23 = .ok (.istore_n 2, 1) := by decide +kernel
theorem dX9_chance_24 : decode cX9_chance 24 = .ok (.iload_n 2, 1) := by decide +kernel
theorem dX9_chance_25 : decode cX9_chance 25 = .ok (.bipush 16, 2) := by decide +kernel
theorem dX9_chance_27 : decode cX9_chance 27 = .ok (.if_icmp .le 7, 3) := by decide +kernel
theorem dX9_chance_30 : decode cX9_chance 30 = .ok (.ldc2_w 261, 3) := by decide +kernel
theorem dX9_chance_33 : decode cX9_chance 33 = .ok (.lreturn, 1) := by decide +kernel
theorem dX9_chance_34 : decode cX9_chance 34 = .ok (.aload_n 0, 1) := by decide +kernel
theorem dX9_chance_35 : decode cX9_chance 35 = .ok (.getfield 10, 3) := by decide +kernel
theorem dX9_chance_38 : decode cX9_chance 38 = .ok (.aload_n 0, 1) := by decide +kernel
theorem dX9_chance_39 : decode cX9_chance 39 = .ok (.aload_n 0, 1) := by decide +kernel
theorem dX9_chance_40 : decode cX9_chance 40 = .ok (.getfield 19, 3) := by decide +kernel
theorem dX9_chance_43 : decode cX9_chance 43 = .ok (.getfield 137, 3) := by decide +kernel
theorem dX9_chance_46 : decode cX9_chance 46 = .ok (.invokevirtual 187, 3) := by decide +kernel
theorem dX9_chance_49 : decode cX9_chance 49 = .ok (.iconst 0, 1) := by decide +kernel
theorem dX9_chance_50 : decode cX9_chance 50 = .ok (.iconst 0, 1) := by decide +kernel
theorem dX9_chance_51 : decode cX9_chance 51 = .ok (.iload_n 2, 1) := by decide +kernel
theorem dX9_chance_52 : decode cX9_chance 52 = .ok (.invokestatic 263, 3) := by decide +kernel
theorem dX9_chance_55 : decode cX9_chance 55 = .ok (.iload_n 2, 1) := by decide +kernel
theorem dX9_chance_56 : decode cX9_chance 56 = .ok (.iload_n 1, 1) := by decide +kernel
theorem dX9_chance_57 : decode cX9_chance 57 = .ok (.invokestatic 257, 3) := by decide +kernel
theorem dX9_chance_60 : decode cX9_chance 60 = .ok (.lreturn, 1) := by decide +kernel
theorem dX9_see_0 : decode cX9_see 0 = .ok (.iload_n 1, 1) := by decide +kernel
theorem dX9_see_1 : decode cX9_see 1 = .ok (.invokestatic 167, 3) := by decide +kernel
theorem dX9_see_4 : decode cX9_see 4 = .ok (.ifCond .eq 19, 3) := by decide +kernel
theorem dX9_see_7 : decode cX9_see 7 = .ok (.iload_n 2, 1) := by decide +kernel
theorem dX9_see_8 : decode cX9_see 8 = .ok (.bipush (-4), 2) := by decide +kernel
theorem dX9_see_10 : decode cX9_see 10 = .ok (.if_icmp .eq 15, 3) := by decide +kernel
theorem dX9_see_13 : decode cX9_see 13 = .ok (.iload_n 2, 1) := by decide +kernel
theorem dX9_see_14 : decode cX9_see 14 = .ok (.ifCond .lt 9, 3) := by decide +kernel
theorem dX9_see_17 : decode cX9_see 17 = .ok (.iload_n 2, 1) := by decide +kernel
theorem dX9_see_18 : decode cX9_see 18 = .ok (.bipush 12, 2) := by decide +kernel
theorem dX9_see_20 : decode cX9_see 20 = .ok (.if_icmp .le 5, 3) := by decide +kernel
theorem dX9_see_23 : decode cX9_see 23 = .ok (.iconst (-1), 1) := by decide +kernel
theorem dX9_see_24 : decode cX9_see 24 = .ok (.ireturn, 1) := by decide +kernel
theorem dX9_see_25 : decode cX9_see 25 = .ok (.aload_n 0, 1) := by decide +kernel
theorem dX9_see_26 : decode cX9_see 26 = .ok (.getfield 19, 3) := by decide +kernel
theorem dX9_see_29 : decode cX9_see 29 = .ok (.getfield 267, 3) := by decide +kernel
theorem dX9_see_32 : decode cX9_see 32 = .ok (.iload_n 1, 1) := by decide +kernel
theorem dX9_see_33 : decode cX9_see 33 = .ok (.iaload, 1) := by decide +kernel
theorem dX9_see_34 : decode cX9_see 34 = .ok (.istore_n 3, 1) := by decide +kernel
theorem dX9_see_35 : decode cX9_see 35 = .ok (.aload_n 0, 1) := by decide +kernel
theorem dX9_see_36 : decode cX9_see 36 = .ok (.getfield 19, 3) := by decide +kernel
theorem dX9_see_39 : decode cX9_see 39 = .ok (.getfield 267, 3) := by decide +kernel
theorem dX9_see_42 : decode cX9_see 42 = .ok (.iload_n 1, 1) := by decide +kernel
theorem dX9_see_43 : decode cX9_see 43 = .ok (.iload_n 2, 1) := by decide +kernel
theorem dX9_see_44 : decode cX9_see 44 = .ok (.iastore, 1) := by decide +kernel
theorem dX9_see_45 : decode cX9_see 45 = .ok (.iload_n 3, 1) := by decide +kernel
theorem dX9_see_46 : decode cX9_see 46 = .ok (.ireturn, 1) := by decide +kernel
theorem dX9_gone_0 : decode cX9_gone 0 = .ok (.iload_n 1, 1) := by decide +kernel
theorem dX9_gone_1 : decode cX9_gone 1 = .ok (.ifCond .lt 17, 3) := by decide +kernel
theorem dX9_gone_4 : decode cX9_gone 4 = .ok (.iload_n 1, 1) := by decide +kernel
theorem dX9_gone_5 : decode cX9_gone 5 = .ok (.iconst 4, 1) := by decide +kernel
theorem dX9_gone_6 : decode cX9_gone 6 = .ok (.if_icmp .gt 12, 3) := by decide +kernel
theorem dX9_gone_9 : decode cX9_gone 9 = .ok (.iload_n 2, 1) := by decide +kernel
theorem dX9_gone_10 : decode cX9_gone 10 = .ok (.ifCond .lt 8, 3) := by decide +kernel
theorem dX9_gone_13 : decode cX9_gone 13 = .ok (.iload_n 2, 1) := by decide +kernel
theorem dX9_gone_14 : decode cX9_gone 14 = .ok (.iconst 2, 1) := by decide +kernel
theorem dX9_gone_15 : decode cX9_gone 15 = .ok (.if_icmp .le 5, 3) := by decide +kernel
theorem dX9_gone_18 : decode cX9_gone 18 = .ok (.iconst (-1), 1) := by decide +kernel
theorem dX9_gone_19 : decode cX9_gone 19 = .ok (.ireturn, 1) := by decide +kernel
theorem dX9_gone_20 : decode cX9_gone 20 = .ok (.aload_n 0, 1) := by decide +kernel
theorem dX9_gone_21 : decode cX9_gone 21 = .ok (.getfield 10, 3) := by decide +kernel
theorem dX9_gone_24 : decode cX9_gone 24 = .ok (.aload_n 0, 1) := by decide +kernel
theorem dX9_gone_25 : decode cX9_gone 25 = .ok (.getfield 19, 3) := by decide +kernel
theorem dX9_gone_28 : decode cX9_gone 28 = .ok (.getfield 137, 3) := by decide +kernel
theorem dX9_gone_31 : decode cX9_gone 31 = .ok (.invokevirtual 156, 3) := by decide +kernel
theorem dX9_gone_34 : decode cX9_gone 34 = .ok (.istore_n 3, 1) := by decide +kernel
theorem dX9_gone_35 : decode cX9_gone 35 = .ok (.aload_n 0, 1) := by decide +kernel
theorem dX9_gone_36 : decode cX9_gone 36 = .ok (.getfield 49, 3) := by decide +kernel
theorem dX9_gone_39 : decode cX9_gone 39 = .ok (.invokevirtual 207, 3) := by decide +kernel
theorem dX9_gone_42 : decode cX9_gone 42 = .ok (.iconst 1, 1) := by decide +kernel
theorem dX9_gone_43 : decode cX9_gone 43 = .ok (.istore 4, 2) := by decide +kernel
theorem dX9_gone_45 : decode cX9_gone 45 = .ok (.iload 4, 2) := by decide +kernel
theorem dX9_gone_47 : decode cX9_gone 47 = .ok (.iconst 3, 1) := by decide +kernel
theorem dX9_gone_48 : decode cX9_gone 48 = .ok (.if_icmp .gt 53, 3) := by decide +kernel
theorem dX9_gone_51 : decode cX9_gone 51 = .ok (.aload_n 0, 1) := by decide +kernel
theorem dX9_gone_52 : decode cX9_gone 52 = .ok (.getfield 19, 3) := by decide +kernel
theorem dX9_gone_55 : decode cX9_gone 55 = .ok (.getfield 267, 3) := by decide +kernel
theorem dX9_gone_58 : decode cX9_gone 58 = .ok (.iload 4, 2) := by decide +kernel
theorem dX9_gone_60 : decode cX9_gone 60 = .ok (.iaload, 1) := by decide +kernel
theorem dX9_gone_61 : decode cX9_gone 61 = .ok (.bipush (-4), 2) := by decide +kernel
theorem dX9_gone_63 : decode cX9_gone 63 = .ok (.if_icmp .eq 32, 3) := by decide +kernel
theorem dX9_gone_66 : decode cX9_gone 66 = .ok (.aload_n 0, 1) := by decide +kernel
theorem dX9_gone_67 : decode cX9_gone 67 = .ok (.getfield 49, 3) := by decide +kernel
theorem dX9_gone_70 : decode cX9_gone 70 = .ok (.iload_n 3, 1) := by decide +kernel
theorem dX9_gone_71 : decode cX9_gone 71 = .ok (.aload_n 0, 1) := by decide +kernel
theorem dX9_gone_72 : decode cX9_gone 72 = .ok (.getfield 10, 3) := by decide +kernel
theorem dX9_gone_75 : decode cX9_gone 75 = .ok (.getfield 170, 3) := by decide +kernel
theorem dX9_gone_78 : decode cX9_gone 78 = .ok (.iload 4, 2) := by decide +kernel
theorem dX9_gone_80 : decode cX9_gone 80 = .ok (.iaload, 1) := by decide +kernel
theorem dX9_gone_81 : decode cX9_gone 81 = .ok (.iand, 1) := by decide +kernel
theorem dX9_gone_82 : decode cX9_gone 82 = .ok (.aload_n 0, 1) := by decide +kernel
theorem dX9_gone_83 : decode cX9_gone 83 = .ok (.getfield 19, 3) := by decide +kernel
theorem dX9_gone_86 : decode cX9_gone 86 = .ok (.getfield 267, 3) := by decide +kernel
theorem dX9_gone_89 : decode cX9_gone 89 = .ok (.iload 4, 2) := by decide +kernel
theorem dX9_gone_91 : decode cX9_gone 91 = .ok (.iaload, 1) := by decide +kernel
theorem dX9_gone_92 : decode cX9_gone 92 = .ok (.invokevirtual 217, 3) := by decide +kernel
theorem dX9_gone_95 : decode cX9_gone 95 = .ok (.iinc 4 1, 3) := by decide +kernel
theorem dX9_gone_98 : decode cX9_gone 98 = .ok (.goto (-53), 3) := by decide +kernel
theorem dX9_gone_101 : decode cX9_gone 101 = .ok (.aload_n 0, 1) := by decide +kernel
theorem dX9_gone_102 : decode cX9_gone 102 = .ok (.getfield 49, 3) := by decide +kernel
theorem dX9_gone_105 : decode cX9_gone 105 = .ok (.aload_n 0, 1) := by decide +kernel
theorem dX9_gone_106 : decode cX9_gone 106 = .ok (.getfield 10, 3) := by decide +kernel
theorem dX9_gone_109 : decode cX9_gone 109 = .ok (.aload_n 0, 1) := by decide +kernel
theorem dX9_gone_110 : decode cX9_gone 110 = .ok (.getfield 19, 3) := by decide +kernel
theorem dX9_gone_113 : decode cX9_gone 113 = .ok (.getfield 137, 3) := by decide +kernel
theorem dX9_gone_116 : decode cX9_gone 116 = .ok (.iload_n 1, 1) := by decide +kernel
theorem dX9_gone_117 : decode cX9_gone 117 = .ok (.iconst 0, 1) := by decide +kernel
theorem dX9_gone_118 : decode cX9_gone 118 = .ok (.invokevirtual 210, 3) := by decide +kernel
theorem dX9_gone_121 : decode cX9_gone 121 = .ok (.iload_n 2, 1) := by decide +kernel
theorem dX9_gone_122 : decode cX9_gone 122 = .ok (.ifCond .ne 11, 3) := by decide +kernel
theorem dX9_gone_125 : decode cX9_gone 125 = .ok (.aload_n 0, 1) := by decide +kernel
theorem dX9_gone_126 : decode cX9_gone 126 = .ok (.getfield 49, 3) := by decide +kernel
theorem dX9_gone_129 : decode cX9_gone 129 = .ok (.getfield 220, 3) := by decide +kernel
theorem dX9_gone_132 : decode cX9_gone 132 = .ok (.ireturn, 1) := by decide +kernel
theorem dX9_gone_133 : decode cX9_gone 133 = .ok (.aload_n 0, 1) := by decide +kernel
theorem dX9_gone_134 : decode cX9_gone 134 = .ok (.getfield 49, 3) := by decide +kernel
theorem dX9_gone_137 : decode cX9_gone 137 = .ok (.getfield 220, 3) := by decide +kernel
theorem dX9_gone_140 : decode cX9_gone 140 = .ok (.ifCond .ne 6, 3) := by decide +kernel
theorem dX9_gone_143 : decode cX9_gone 143 = .ok (.bipush (-4), 2) := by decide +kernel
theorem dX9_gone_145 : decode cX9_gone 145 = .ok (.ireturn, 1) := by decide +kernel
theorem dX9_gone_146 : decode cX9_gone 146 = .ok (.iload_n 2, 1) := by decide +kernel
theorem dX9_gone_147 : decode cX9_gone 147 = .ok (.iconst 1, 1) := by decide +kernel
theorem dX9_gone_148 : decode cX9_gone 148 = .ok (.if_icmp .ne 13, 3) := by decide +kernel
theorem dX9_gone_151 : decode cX9_gone 151 = .ok (.aload_n 0, 1) := by decide +kernel
theorem dX9_gone_152 : decode cX9_gone 152 = .ok (.getfield 49, 3) := by decide +kernel
theorem dX9_gone_155 : decode cX9_gone 155 = .ok (.getfield 223, 3) := by decide +kernel
theorem dX9_gone_158 : decode cX9_gone 158 = .ok (.goto 10, 3) := by decide +kernel
theorem dX9_gone_161 : decode cX9_gone 161 = .ok (.aload_n 0, 1) := by decide +kernel
theorem dX9_gone_162 : decode cX9_gone 162 = .ok (.getfield 49, 3) := by decide +kernel
theorem dX9_gone_165 : decode cX9_gone 165 = .ok (.getfield 270, 3) := by decide +kernel
theorem dX9_gone_168 : decode cX9_gone 168 = .ok (.ireturn, 1) := by decide +kernel
theorem dX9_play_0 : decode cX9_play 0 = .ok (.iload_n 2, 1) := by decide +kernel
theorem dX9_play_1 : decode cX9_play 1 = .ok (.ifCond .lt 9, 3) := by decide +kernel
theorem dX9_play_4 : decode cX9_play 4 = .ok (.iload_n 2, 1) := by decide +kernel
theorem dX9_play_5 : decode cX9_play 5 = .ok (.bipush 60, 2) := by decide +kernel
theorem dX9_play_7 : decode cX9_play 7 = .ok (.if_icmp .le 5, 3) := by decide +kernel
theorem dX9_play_10 : decode cX9_play 10 = .ok (.iconst (-1), 1) := by decide +kernel
theorem dX9_play_11 : decode cX9_play 11 = .ok (.ireturn, 1) := by decide +kernel
theorem dX9_play_12 : decode cX9_play 12 = .ok (.aload_n 0, 1) := by decide +kernel
theorem dX9_play_13 : decode cX9_play 13 = .ok (.getfield 19, 3) := by decide +kernel
theorem dX9_play_16 : decode cX9_play 16 = .ok (.getfield 137, 3) := by decide +kernel
theorem dX9_play_19 : decode cX9_play 19 = .ok (.istore_n 3, 1) := by decide +kernel
theorem dX9_play_20 : decode cX9_play 20 = .ok (.iload_n 1, 1) := by decide +kernel
theorem dX9_play_21 : decode cX9_play 21 = .ok (.istore 4, 2) := by decide +kernel
theorem dX9_play_23 : decode cX9_play 23 = .ok (.iconst 0, 1) := by decide +kernel
theorem dX9_play_24 : decode cX9_play 24 = .ok (.istore 5, 2) := by decide +kernel
theorem dX9_play_26 : decode cX9_play 26 = .ok (.iload 5, 2) := by decide +kernel
theorem dX9_play_28 : decode cX9_play 28 = .ok (.iload_n 2, 1) := by decide +kernel
theorem dX9_play_29 : decode cX9_play 29 = .ok (.if_icmp .ge 55, 3) := by decide +kernel
theorem dX9_play_32 : decode cX9_play 32 = .ok (.aload_n 0, 1) := by decide +kernel
theorem dX9_play_33 : decode cX9_play 33 = .ok (.getfield 10, 3) := by decide +kernel
theorem dX9_play_36 : decode cX9_play 36 = .ok (.getfield 131, 3) := by decide +kernel
theorem dX9_play_39 : decode cX9_play 39 = .ok (.ifCond .le 45, 3) := by decide +kernel
theorem dX9_play_42 : decode cX9_play 42 = .ok (.iload 4, 2) := by decide +kernel
theorem dX9_play_44 : decode cX9_play 44 = .ok (.ldc_w 273, 3) := by decide +kernel
theorem dX9_play_47 : decode cX9_play 47 = .ok (.imul, 1) := by decide +kernel
theorem dX9_play_48 : decode cX9_play 48 = .ok (.sipush 12345, 3) := by decide +kernel
theorem dX9_play_51 : decode cX9_play 51 = .ok (.iadd, 1) := by decide +kernel
theorem dX9_play_52 : decode cX9_play 52 = .ok (.istore 4, 2) := by decide +kernel
theorem dX9_play_54 : decode cX9_play 54 = .ok (.iload_n 3, 1) := by decide +kernel
theorem dX9_play_55 : decode cX9_play 55 = .ok (.iconst 1, 1) := by decide +kernel
theorem dX9_play_56 : decode cX9_play 56 = .ok (.iload 4, 2) := by decide +kernel
theorem dX9_play_58 : decode cX9_play 58 = .ok (.bipush 16, 2) := by decide +kernel
theorem dX9_play_60 : decode cX9_play 60 = .ok (.iushr, 1) := by decide +kernel
theorem dX9_play_61 : decode cX9_play 61 = .ok (.sipush 32767, 3) := by decide +kernel
theorem dX9_play_64 : decode cX9_play 64 = .ok (.iand, 1) := by decide +kernel
theorem dX9_play_65 : decode cX9_play 65 = .ok (.aload_n 0, 1) := by decide +kernel
theorem dX9_play_66 : decode cX9_play 66 = .ok (.getfield 10, 3) := by decide +kernel
theorem dX9_play_69 : decode cX9_play 69 = .ok (.getfield 131, 3) := by decide +kernel
theorem dX9_play_72 : decode cX9_play 72 = .ok (.irem, 1) := by decide +kernel
theorem dX9_play_73 : decode cX9_play 73 = .ok (.ishl, 1) := by decide +kernel
theorem dX9_play_74 : decode cX9_play 74 = .ok (.iconst (-1), 1) := by decide +kernel
theorem dX9_play_75 : decode cX9_play 75 = .ok (.ixor, 1) := by decide +kernel
theorem dX9_play_76 : decode cX9_play 76 = .ok (.iand, 1) := by decide +kernel
theorem dX9_play_77 : decode cX9_play 77 = .ok (.istore_n 3, 1) := by decide +kernel
theorem dX9_play_78 : decode cX9_play 78 = .ok (.iinc 5 1, 3) := by decide +kernel
theorem dX9_play_81 : decode cX9_play 81 = .ok (.goto (-55), 3) := by decide +kernel
theorem dX9_play_84 : decode cX9_play 84 = .ok (.aload_n 0, 1) := by decide +kernel
theorem dX9_play_85 : decode cX9_play 85 = .ok (.iload_n 3, 1) := by decide +kernel
theorem dX9_play_86 : decode cX9_play 86 = .ok (.invokevirtual 178, 3) := by decide +kernel
theorem dX9_play_89 : decode cX9_play 89 = .ok (.ireturn, 1) := by decide +kernel
theorem dX9_keep_0 : decode cX9_keep 0 = .ok (.iload_n 1, 1) := by decide +kernel
theorem dX9_keep_1 : decode cX9_keep 1 = .ok (.invokestatic 274, 3) := by decide +kernel
theorem dX9_keep_4 : decode cX9_keep 4 = .ok (.ifCond .ne 5, 3) := by decide +kernel
theorem dX9_keep_7 : decode cX9_keep 7 = .ok (.iconst (-1), 1) := by decide +kernel
theorem dX9_keep_8 : decode cX9_keep 8 = .ok (.ireturn, 1) := by decide +kernel
theorem dX9_keep_9 : decode cX9_keep 9 = .ok (.aload_n 0, 1) := by decide +kernel
theorem dX9_keep_10 : decode cX9_keep 10 = .ok (.getfield 120, 3) := by decide +kernel
theorem dX9_keep_13 : decode cX9_keep 13 = .ok (.iload_n 1, 1) := by decide +kernel
theorem dX9_keep_14 : decode cX9_keep 14 = .ok (.ishr, 1) := by decide +kernel
theorem dX9_keep_15 : decode cX9_keep 15 = .ok (.iconst 1, 1) := by decide +kernel
theorem dX9_keep_16 : decode cX9_keep 16 = .ok (.iand, 1) := by decide +kernel
theorem dX9_keep_17 : decode cX9_keep 17 = .ok (.istore_n 2, 1) := by decide +kernel
theorem dX9_keep_18 : decode cX9_keep 18 = .ok (.aload_n 0, 1) := by decide +kernel
theorem dX9_keep_19 : decode cX9_keep 19 = .ok (.getfield 67, 3) := by decide +kernel
theorem dX9_keep_22 : decode cX9_keep 22 = .ok (.iload_n 1, 1) := by decide +kernel
theorem dX9_keep_23 : decode cX9_keep 23 = .ok (.aaload, 1) := by decide +kernel
theorem dX9_keep_24 : decode cX9_keep 24 = .ok (.aload_n 0, 1) := by decide +kernel
theorem dX9_keep_25 : decode cX9_keep 25 = .ok (.getfield 19, 3) := by decide +kernel
theorem dX9_keep_28 : decode cX9_keep 28 = .ok (.invokevirtual 116, 3) := by decide +kernel
theorem dX9_keep_31 : decode cX9_keep 31 = .ok (.aload_n 0, 1) := by decide +kernel
theorem dX9_keep_32 : decode cX9_keep 32 = .ok (.dup, 1) := by decide +kernel
theorem dX9_keep_33 : decode cX9_keep 33 = .ok (.getfield 120, 3) := by decide +kernel
theorem dX9_keep_36 : decode cX9_keep 36 = .ok (.iconst 1, 1) := by decide +kernel
theorem dX9_keep_37 : decode cX9_keep 37 = .ok (.iload_n 1, 1) := by decide +kernel
theorem dX9_keep_38 : decode cX9_keep 38 = .ok (.ishl, 1) := by decide +kernel
theorem dX9_keep_39 : decode cX9_keep 39 = .ok (.ior, 1) := by decide +kernel
theorem dX9_keep_40 : decode cX9_keep 40 = .ok (.putfield 120, 3) := by decide +kernel
theorem dX9_keep_43 : decode cX9_keep 43 = .ok (.iload_n 2, 1) := by decide +kernel
theorem dX9_keep_44 : decode cX9_keep 44 = .ok (.ireturn, 1) := by decide +kernel
theorem dX9_back_0 : decode cX9_back 0 = .ok (.iload_n 1, 1) := by decide +kernel
theorem dX9_back_1 : decode cX9_back 1 = .ok (.invokestatic 274, 3) := by decide +kernel
theorem dX9_back_4 : decode cX9_back 4 = .ok (.ifCond .ne 5, 3) := by decide +kernel
theorem dX9_back_7 : decode cX9_back 7 = .ok (.iconst (-1), 1) := by decide +kernel
theorem dX9_back_8 : decode cX9_back 8 = .ok (.ireturn, 1) := by decide +kernel
theorem dX9_back_9 : decode cX9_back 9 = .ok (.aload_n 0, 1) := by decide +kernel
theorem dX9_back_10 : decode cX9_back 10 = .ok (.getfield 120, 3) := by decide +kernel
theorem dX9_back_13 : decode cX9_back 13 = .ok (.iload_n 1, 1) := by decide +kernel
theorem dX9_back_14 : decode cX9_back 14 = .ok (.ishr, 1) := by decide +kernel
theorem dX9_back_15 : decode cX9_back 15 = .ok (.iconst 1, 1) := by decide +kernel
theorem dX9_back_16 : decode cX9_back 16 = .ok (.iand, 1) := by decide +kernel
theorem dX9_back_17 : decode cX9_back 17 = .ok (.ifCond .ne 6, 3) := by decide +kernel
theorem dX9_back_20 : decode cX9_back 20 = .ok (.bipush (-2), 2) := by decide +kernel
theorem dX9_back_22 : decode cX9_back 22 = .ok (.ireturn, 1) := by decide +kernel
theorem dX9_back_23 : decode cX9_back 23 = .ok (.aload_n 0, 1) := by decide +kernel
theorem dX9_back_24 : decode cX9_back 24 = .ok (.getfield 19, 3) := by decide +kernel
theorem dX9_back_27 : decode cX9_back 27 = .ok (.aload_n 0, 1) := by decide +kernel
theorem dX9_back_28 : decode cX9_back 28 = .ok (.getfield 67, 3) := by decide +kernel
theorem dX9_back_31 : decode cX9_back 31 = .ok (.iload_n 1, 1) := by decide +kernel
theorem dX9_back_32 : decode cX9_back 32 = .ok (.aaload, 1) := by decide +kernel
theorem dX9_back_33 : decode cX9_back 33 = .ok (.invokevirtual 116, 3) := by decide +kernel
theorem dX9_back_36 : decode cX9_back 36 = .ok (.aload_n 0, 1) := by decide +kernel
theorem dX9_back_37 : decode cX9_back 37 = .ok (.aload_n 0, 1) := by decide +kernel
theorem dX9_back_38 : decode cX9_back 38 = .ok (.getfield 19, 3) := by decide +kernel
theorem dX9_back_41 : decode cX9_back 41 = .ok (.getfield 137, 3) := by decide +kernel
theorem dX9_back_44 : decode cX9_back 44 = .ok (.invokevirtual 178, 3) := by decide +kernel
theorem dX9_back_47 : decode cX9_back 47 = .ok (.ireturn, 1) := by decide +kernel
theorem dX9_sheet_0 : decode cX9_sheet 0 = .ok (.iload_n 1, 1) := by decide +kernel
theorem dX9_sheet_1 : decode cX9_sheet 1 = .ok (.invokestatic 277, 3) := by decide +kernel
theorem dX9_sheet_4 : decode cX9_sheet 4 = .ok (.ifCond .eq 16, 3) := by decide +kernel
theorem dX9_sheet_7 : decode cX9_sheet 7 = .ok (.iload_n 2, 1) := by decide +kernel
theorem dX9_sheet_8 : decode cX9_sheet 8 = .ok (.invokestatic 280, 3) := by decide +kernel
theorem dX9_sheet_11 : decode cX9_sheet 11 = .ok (.ifCond .eq 9, 3) := by decide +kernel
theorem dX9_sheet_14 : decode cX9_sheet 14 = .ok (.iload_n 3, 1) := by decide +kernel
theorem dX9_sheet_15 : decode cX9_sheet 15 = .ok (.bipush 40, 2) := by decide +kernel
theorem dX9_sheet_17 : decode cX9_sheet 17 = .ok (.if_icmp .le 5, 3) := by decide +kernel
theorem dX9_sheet_20 : decode cX9_sheet 20 = .ok (.iconst (-1), 1) := by decide +kernel
theorem dX9_sheet_21 : decode cX9_sheet 21 = .ok (.ireturn, 1) := by decide +kernel
theorem dX9_sheet_22 : decode cX9_sheet 22 = .ok (.iload_n 3, 1) := by decide +kernel
theorem dX9_sheet_23 : decode cX9_sheet 23 = .ok (.ifCond .ge 6, 3) := by decide +kernel
theorem dX9_sheet_26 : decode cX9_sheet 26 = .ok (.bipush (-14), 2) := by decide +kernel
theorem dX9_sheet_28 : decode cX9_sheet 28 = .ok (.ireturn, 1) := by decide +kernel
theorem dX9_sheet_29 : decode cX9_sheet 29 = .ok (.aload_n 0, 1) := by decide +kernel
theorem dX9_sheet_30 : decode cX9_sheet 30 = .ok (.getfield 73, 3) := by decide +kernel
theorem dX9_sheet_33 : decode cX9_sheet 33 = .ok (.iload_n 1, 1) := by decide +kernel
theorem dX9_sheet_34 : decode cX9_sheet 34 = .ok (.new 71, 3) := by decide +kernel
theorem dX9_sheet_37 : decode cX9_sheet 37 = .ok (.dup, 1) := by decide +kernel
theorem dX9_sheet_38 : decode cX9_sheet 38 = .ok (.iload_n 2, 1) := by decide +kernel
theorem dX9_sheet_39 : decode cX9_sheet 39 = .ok (.iload_n 3, 1) := by decide +kernel
theorem dX9_sheet_40 : decode cX9_sheet 40 = .ok (.invokespecial 283, 3) := by decide +kernel
theorem dX9_sheet_43 : decode cX9_sheet 43 = .ok (.aastore, 1) := by decide +kernel
theorem dX9_sheet_44 : decode cX9_sheet 44 = .ok (.iconst 1, 1) := by decide +kernel
theorem dX9_sheet_45 : decode cX9_sheet 45 = .ok (.ireturn, 1) := by decide +kernel
theorem dX9_lay_0 : decode cX9_lay 0 = .ok (.iload_n 1, 1) := by decide +kernel
theorem dX9_lay_1 : decode cX9_lay 1 = .ok (.invokestatic 277, 3) := by decide +kernel
theorem dX9_lay_4 : decode cX9_lay 4 = .ok (.ifCond .ne 5, 3) := by decide +kernel
theorem dX9_lay_7 : decode cX9_lay 7 = .ok (.iconst (-1), 1) := by decide +kernel
theorem dX9_lay_8 : decode cX9_lay 8 = .ok (.ireturn, 1) := by decide +kernel
theorem dX9_lay_9 : decode cX9_lay 9 = .ok (.aload_n 0, 1) := by decide +kernel
theorem dX9_lay_10 : decode cX9_lay 10 = .ok (.getfield 73, 3) := by decide +kernel
theorem dX9_lay_13 : decode cX9_lay 13 = .ok (.iload_n 1, 1) := by decide +kernel
theorem dX9_lay_14 : decode cX9_lay 14 = .ok (.aaload, 1) := by decide +kernel
theorem dX9_lay_15 : decode cX9_lay 15 = .ok (.astore 4, 2) := by decide +kernel
theorem dX9_lay_17 : decode cX9_lay 17 = .ok (.aload 4, 2) := by decide +kernel
theorem dX9_lay_19 : decode cX9_lay 19 = .ok (.ifnonnull 6, 3) := by decide +kernel
theorem dX9_lay_22 : decode cX9_lay 22 = .ok (.bipush (-11), 2) := by decide +kernel
theorem dX9_lay_24 : decode cX9_lay 24 = .ok (.ireturn, 1) := by decide +kernel
theorem dX9_lay_25 : decode cX9_lay 25 = .ok (.aload 4, 2) := by decide +kernel
theorem dX9_lay_27 : decode cX9_lay 27 = .ok (.iload_n 2, 1) := by decide +kernel
theorem dX9_lay_28 : decode cX9_lay 28 = .ok (.invokevirtual 285, 3) := by decide +kernel
theorem dX9_lay_31 : decode cX9_lay 31 = .ok (.ifCond .ne 6, 3) := by decide +kernel
theorem dX9_lay_34 : decode cX9_lay 34 = .ok (.bipush (-12), 2) := by decide +kernel
theorem dX9_lay_36 : decode cX9_lay 36 = .ok (.ireturn, 1) := by decide +kernel
theorem dX9_lay_37 : decode cX9_lay 37 = .ok (.aload 4, 2) := by decide +kernel
theorem dX9_lay_39 : decode cX9_lay 39 = .ok (.iload_n 2, 1) := by decide +kernel
theorem dX9_lay_40 : decode cX9_lay 40 = .ok (.iload_n 3, 1) := by decide +kernel
theorem dX9_lay_41 : decode cX9_lay 41 = .ok (.invokevirtual 288, 3) := by decide +kernel
theorem dX9_lay_44 : decode cX9_lay 44 = .ok (.iconst 1, 1) := by decide +kernel
theorem dX9_lay_45 : decode cX9_lay 45 = .ok (.ireturn, 1) := by decide +kernel
theorem dX9_read_0 : decode cX9_read 0 = .ok (.iload_n 1, 1) := by decide +kernel
theorem dX9_read_1 : decode cX9_read 1 = .ok (.invokestatic 277, 3) := by decide +kernel
theorem dX9_read_4 : decode cX9_read 4 = .ok (.ifCond .eq 22, 3) := by decide +kernel
theorem dX9_read_7 : decode cX9_read 7 = .ok (.iload_n 2, 1) := by decide +kernel
theorem dX9_read_8 : decode cX9_read 8 = .ok (.invokestatic 280, 3) := by decide +kernel
theorem dX9_read_11 : decode cX9_read 11 = .ok (.ifCond .eq 15, 3) := by decide +kernel
theorem dX9_read_14 : decode cX9_read 14 = .ok (.iload 4, 2) := by decide +kernel
theorem dX9_read_16 : decode cX9_read 16 = .ok (.ifCond .lt 10, 3) := by decide +kernel
theorem dX9_read_19 : decode cX9_read 19 = .ok (.iload 4, 2) := by decide +kernel
theorem dX9_read_21 : decode cX9_read 21 = .ok (.bipush 20, 2) := by decide +kernel
theorem dX9_read_23 : decode cX9_read 23 = .ok (.if_icmp .le 5, 3) := by decide +kernel
theorem dX9_read_26 : decode cX9_read 26 = .ok (.iconst (-1), 1) := by decide +kernel
theorem dX9_read_27 : decode cX9_read 27 = .ok (.ireturn, 1) := by decide +kernel
theorem dX9_read_28 : decode cX9_read 28 = .ok (.aload_n 0, 1) := by decide +kernel
theorem dX9_read_29 : decode cX9_read 29 = .ok (.getfield 73, 3) := by decide +kernel
theorem dX9_read_32 : decode cX9_read 32 = .ok (.iload_n 1, 1) := by decide +kernel
theorem dX9_read_33 : decode cX9_read 33 = .ok (.aaload, 1) := by decide +kernel
theorem dX9_read_34 : decode cX9_read 34 = .ok (.astore 5, 2) := by decide +kernel
theorem dX9_read_36 : decode cX9_read 36 = .ok (.aload_n 0, 1) := by decide +kernel
theorem dX9_read_37 : decode cX9_read 37 = .ok (.getfield 19, 3) := by decide +kernel
theorem dX9_read_40 : decode cX9_read 40 = .ok (.getfield 137, 3) := by decide +kernel
theorem dX9_read_43 : decode cX9_read 43 = .ok (.istore 6, 2) := by decide +kernel
theorem dX9_read_45 : decode cX9_read 45 = .ok (.iconst 0, 1) := by decide +kernel
theorem dX9_read_46 : decode cX9_read 46 = .ok (.istore 7, 2) := by decide +kernel
theorem dX9_read_48 : decode cX9_read 48 = .ok (.iconst 0, 1) := by decide +kernel
theorem dX9_read_49 : decode cX9_read 49 = .ok (.istore 8, 2) := by decide +kernel
theorem dX9_read_51 : decode cX9_read 51 = .ok (.iconst 0, 1) := by decide +kernel
theorem dX9_read_52 : decode cX9_read 52 = .ok (.istore 9, 2) := by decide +kernel
theorem dX9_read_54 : decode cX9_read 54 = .ok (.iload 9, 2) := by decide +kernel
theorem dX9_read_56 : decode cX9_read 56 = .ok (.iload 4, 2) := by decide +kernel
theorem dX9_read_58 : decode cX9_read 58 = .ok (.if_icmp .ge 93, 3) := by decide +kernel
theorem dX9_read_61 : decode cX9_read 61 = .ok (.iload 8, 2) := by decide +kernel
theorem dX9_read_63 : decode cX9_read 63 = .ok (.ifCond .ne 88, 3) := by decide +kernel
theorem dX9_read_66 : decode cX9_read 66 = .ok (.aload 5, 2) := by decide +kernel
theorem dX9_read_68 : decode cX9_read 68 = .ok (.ifnonnull 9, 3) := by decide +kernel
theorem dX9_read_71 : decode cX9_read 71 = .ok (.iconst 1, 1) := by decide +kernel
theorem dX9_read_72 : decode cX9_read 72 = .ok (.istore 8, 2) := by decide +kernel
theorem dX9_read_74 : decode cX9_read 74 = .ok (.goto 71, 3) := by decide +kernel
theorem dX9_read_77 : decode cX9_read 77 = .ok (.aload 5, 2) := by decide +kernel
theorem dX9_read_79 : decode cX9_read 79 = .ok (.getfield 291, 3) := by decide +kernel
theorem dX9_read_82 : decode cX9_read 82 = .ok (.iload_n 2, 1) := by decide +kernel
theorem dX9_read_83 : decode cX9_read 83 = .ok (.if_icmp .eq 9, 3) := by decide +kernel
theorem dX9_read_86 : decode cX9_read 86 = .ok (.iconst 3, 1) := by decide +kernel
theorem dX9_read_87 : decode cX9_read 87 = .ok (.istore 8, 2) := by decide +kernel
theorem dX9_read_89 : decode cX9_read 89 = .ok (.goto 56, 3) := by decide +kernel
theorem dX9_read_92 : decode cX9_read 92 = .ok (.aload 5, 2) := by decide +kernel
theorem dX9_read_94 : decode cX9_read 94 = .ok (.iload_n 3, 1) := by decide +kernel
theorem dX9_read_95 : decode cX9_read 95 = .ok (.iload 9, 2) := by decide +kernel
theorem dX9_read_97 : decode cX9_read 97 = .ok (.iadd, 1) := by decide +kernel
theorem dX9_read_98 : decode cX9_read 98 = .ok (.invokevirtual 285, 3) := by decide +kernel
theorem dX9_read_101 : decode cX9_read 101 = .ok (.ifCond .ne 9, 3) := by decide +kernel
theorem dX9_read_104 : decode cX9_read 104 = .ok (.iconst 2, 1) := by decide +kernel
theorem dX9_read_105 : decode cX9_read 105 = .ok (.istore 8, 2) := by decide +kernel
theorem dX9_read_107 : decode cX9_read 107 = .ok (.goto 38, 3) := by decide +kernel
theorem dX9_read_110 : decode cX9_read 110 = .ok (.aload_n 0, 1) := by decide +kernel
theorem dX9_read_111 : decode cX9_read 111 = .ok (.aload 5, 2) := by decide +kernel
theorem dX9_read_113 : decode cX9_read 113 = .ok (.getfield 294, 3) := by decide +kernel
theorem dX9_read_116 : decode cX9_read 116 = .ok (.iload_n 3, 1) := by decide +kernel
theorem dX9_read_117 : decode cX9_read 117 = .ok (.iload 9, 2) := by decide +kernel
theorem dX9_read_119 : decode cX9_read 119 = .ok (.iadd, 1) := by decide +kernel
theorem dX9_read_120 : decode cX9_read 120 = .ok (.iaload, 1) := by decide +kernel
theorem dX9_read_121 : decode cX9_read 121 = .ok (.invokevirtual 181, 3) := by decide +kernel
theorem dX9_read_124 : decode cX9_read 124 = .ok (.ifCond .ge 18, 3) := by decide +kernel
theorem dX9_read_127 : decode cX9_read 127 = .ok (.aload_n 0, 1) := by decide +kernel
theorem dX9_read_128 : decode cX9_read 128 = .ok (.getfield 19, 3) := by decide +kernel
theorem dX9_read_131 : decode cX9_read 131 = .ok (.iload 6, 2) := by decide +kernel
theorem dX9_read_133 : decode cX9_read 133 = .ok (.putfield 137, 3) := by decide +kernel
theorem dX9_read_136 : decode cX9_read 136 = .ok (.bipush (-20), 2) := by decide +kernel
theorem dX9_read_138 : decode cX9_read 138 = .ok (.iload 9, 2) := by decide +kernel
theorem dX9_read_140 : decode cX9_read 140 = .ok (.isub, 1) := by decide +kernel
theorem dX9_read_141 : decode cX9_read 141 = .ok (.ireturn, 1) := by decide +kernel
theorem dX9_read_142 : decode cX9_read 142 = .ok (.iinc 7 1, 3) := by decide +kernel
theorem dX9_read_145 : decode cX9_read 145 = .ok (.iinc 9 1, 3) := by decide +kernel
theorem dX9_read_148 : decode cX9_read 148 = .ok (.goto (-94), 3) := by decide +kernel
theorem dX9_read_151 : decode cX9_read 151 = .ok (.aload_n 0, 1) := by decide +kernel
theorem dX9_read_152 : decode cX9_read 152 = .ok (.iload 8, 2) := by decide +kernel
theorem dX9_read_154 : decode cX9_read 154 = .ok (.putfield 297, 3) := by decide +kernel
theorem dX9_read_157 : decode cX9_read 157 = .ok (.iload 7, 2) := by decide +kernel
theorem dX9_read_159 : decode cX9_read 159 = .ok (.ireturn, 1) := by decide +kernel
theorem dX9_torn_0 : decode cX9_torn 0 = .ok (.aload_n 0, 1) := by decide +kernel
theorem dX9_torn_1 : decode cX9_torn 1 = .ok (.getfield 297, 3) := by decide +kernel
theorem dX9_torn_4 : decode cX9_torn 4 = .ok (.ireturn, 1) := by decide +kernel
theorem dX9_count_0 : decode cX9_count 0 = .ok (.iload_n 1, 1) := by decide +kernel
theorem dX9_count_1 : decode cX9_count 1 = .ok (.tableswitch 104 0 5 #[39, 50, 58, 66, 74, 96], 39) := by decide +kernel
theorem dX9_count_40 : decode cX9_count 40 = .ok (.aload_n 0, 1) := by decide +kernel
theorem dX9_count_41 : decode cX9_count 41 = .ok (.getfield 19, 3) := by decide +kernel
theorem dX9_count_44 : decode cX9_count 44 = .ok (.getfield 137, 3) := by decide +kernel
theorem dX9_count_47 : decode cX9_count 47 = .ok (.invokestatic 173, 3) := by decide +kernel
theorem dX9_count_50 : decode cX9_count 50 = .ok (.ireturn, 1) := by decide +kernel
theorem dX9_count_51 : decode cX9_count 51 = .ok (.aload_n 0, 1) := by decide +kernel
theorem dX9_count_52 : decode cX9_count 52 = .ok (.getfield 19, 3) := by decide +kernel
theorem dX9_count_55 : decode cX9_count 55 = .ok (.invokevirtual 300, 3) := by decide +kernel
theorem dX9_count_58 : decode cX9_count 58 = .ok (.ireturn, 1) := by decide +kernel
theorem dX9_count_59 : decode cX9_count 59 = .ok (.aload_n 0, 1) := by decide +kernel
theorem dX9_count_60 : decode cX9_count 60 = .ok (.getfield 120, 3) := by decide +kernel
theorem dX9_count_63 : decode cX9_count 63 = .ok (.invokestatic 173, 3) := by decide +kernel
theorem dX9_count_66 : decode cX9_count 66 = .ok (.ireturn, 1) := by decide +kernel
theorem dX9_count_67 : decode cX9_count 67 = .ok (.aload_n 0, 1) := by decide +kernel
theorem dX9_count_68 : decode cX9_count 68 = .ok (.getfield 26, 3) := by decide +kernel
theorem dX9_count_71 : decode cX9_count 71 = .ok (.getfield 96, 3) := by decide +kernel
theorem dX9_count_74 : decode cX9_count 74 = .ok (.ireturn, 1) := by decide +kernel
theorem dX9_count_75 : decode cX9_count 75 = .ok (.aload_n 0, 1) := by decide +kernel
theorem dX9_count_76 : decode cX9_count 76 = .ok (.getfield 73, 3) := by decide +kernel
theorem dX9_count_79 : decode cX9_count 79 = .ok (.iconst 0, 1) := by decide +kernel
theorem dX9_count_80 : decode cX9_count 80 = .ok (.aaload, 1) := by decide +kernel
theorem dX9_count_81 : decode cX9_count 81 = .ok (.astore_n 2, 1) := by decide +kernel
theorem dX9_count_82 : decode cX9_count 82 = .ok (.aload_n 2, 1) := by decide +kernel
theorem dX9_count_83 : decode cX9_count 83 = .ok (.ifnonnull 8, 3) := by decide +kernel
theorem dX9_count_86 : decode cX9_count 86 = .ok (.bipush (-4), 2) := by decide +kernel
theorem dX9_count_88 : decode cX9_count 88 = .ok (.goto 8, 3) := by decide +kernel
theorem dX9_count_91 : decode cX9_count 91 = .ok (.aload_n 2, 1) := by decide +kernel
theorem dX9_count_92 : decode cX9_count 92 = .ok (.getfield 294, 3) := by decide +kernel
theorem dX9_count_95 : decode cX9_count 95 = .ok (.arraylength, 1) := by decide +kernel
theorem dX9_count_96 : decode cX9_count 96 = .ok (.ireturn, 1) := by decide +kernel
theorem dX9_count_97 : decode cX9_count 97 = .ok (.aload_n 0, 1) := by decide +kernel
theorem dX9_count_98 : decode cX9_count 98 = .ok (.getfield 19, 3) := by decide +kernel
theorem dX9_count_101 : decode cX9_count 101 = .ok (.invokevirtual 303, 3) := by decide +kernel
theorem dX9_count_104 : decode cX9_count 104 = .ok (.ireturn, 1) := by decide +kernel
theorem dX9_count_105 : decode cX9_count 105 = .ok (.iconst (-1), 1) := by decide +kernel
theorem dX9_count_106 : decode cX9_count 106 = .ok (.ireturn, 1) := by decide +kernel
theorem dX9_isMatch_0 : decode cX9_isMatch 0 = .ok (.iload_n 1, 1) := by decide +kernel
theorem dX9_isMatch_1 : decode cX9_isMatch 1 = .ok (.ifCond .lt 18, 3) := by decide +kernel
theorem dX9_isMatch_4 : decode cX9_isMatch 4 = .ok (.iload_n 1, 1) := by decide +kernel
theorem dX9_isMatch_5 : decode cX9_isMatch 5 = .ok (.aload_n 0, 1) := by decide +kernel
theorem dX9_isMatch_6 : decode cX9_isMatch 6 = .ok (.getfield 10, 3) := by decide +kernel
theorem dX9_isMatch_9 : decode cX9_isMatch 9 = .ok (.getfield 131, 3) := by decide +kernel
theorem dX9_isMatch_12 : decode cX9_isMatch 12 = .ok (.if_icmp .ge 7, 3) := by decide +kernel
theorem dX9_isMatch_15 : decode cX9_isMatch 15 = .ok (.iconst 1, 1) := by decide +kernel
theorem dX9_isMatch_16 : decode cX9_isMatch 16 = .ok (.goto 4, 3) := by decide +kernel
theorem dX9_isMatch_19 : decode cX9_isMatch 19 = .ok (.iconst 0, 1) := by decide +kernel
theorem dX9_isMatch_20 : decode cX9_isMatch 20 = .ok (.ireturn, 1) := by decide +kernel
theorem dX9_isSize_0 : decode cX9_isSize 0 = .ok (.iload_n 0, 1) := by decide +kernel
theorem dX9_isSize_1 : decode cX9_isSize 1 = .ok (.iconst 1, 1) := by decide +kernel
theorem dX9_isSize_2 : decode cX9_isSize 2 = .ok (.if_icmp .lt 12, 3) := by decide +kernel
theorem dX9_isSize_5 : decode cX9_isSize 5 = .ok (.iload_n 0, 1) := by decide +kernel
theorem dX9_isSize_6 : decode cX9_isSize 6 = .ok (.iconst 3, 1) := by decide +kernel
theorem dX9_isSize_7 : decode cX9_isSize 7 = .ok (.if_icmp .gt 7, 3) := by decide +kernel
theorem dX9_isSize_10 : decode cX9_isSize 10 = .ok (.iconst 1, 1) := by decide +kernel
theorem dX9_isSize_11 : decode cX9_isSize 11 = .ok (.goto 4, 3) := by decide +kernel
theorem dX9_isSize_14 : decode cX9_isSize 14 = .ok (.iconst 0, 1) := by decide +kernel
theorem dX9_isSize_15 : decode cX9_isSize 15 = .ok (.ireturn, 1) := by decide +kernel
theorem dX9_isImage_0 : decode cX9_isImage 0 = .ok (.iload_n 0, 1) := by decide +kernel
theorem dX9_isImage_1 : decode cX9_isImage 1 = .ok (.ifCond .lt 12, 3) := by decide +kernel
theorem dX9_isImage_4 : decode cX9_isImage 4 = .ok (.iload_n 0, 1) := by decide +kernel
theorem dX9_isImage_5 : decode cX9_isImage 5 = .ok (.iconst 2, 1) := by decide +kernel
theorem dX9_isImage_6 : decode cX9_isImage 6 = .ok (.if_icmp .ge 7, 3) := by decide +kernel
theorem dX9_isImage_9 : decode cX9_isImage 9 = .ok (.iconst 1, 1) := by decide +kernel
theorem dX9_isImage_10 : decode cX9_isImage 10 = .ok (.goto 4, 3) := by decide +kernel
theorem dX9_isImage_13 : decode cX9_isImage 13 = .ok (.iconst 0, 1) := by decide +kernel
theorem dX9_isImage_14 : decode cX9_isImage 14 = .ok (.ireturn, 1) := by decide +kernel
theorem dX9_isSheet_0 : decode cX9_isSheet 0 = .ok (.iload_n 0, 1) := by decide +kernel
theorem dX9_isSheet_1 : decode cX9_isSheet 1 = .ok (.ifCond .lt 12, 3) := by decide +kernel
theorem dX9_isSheet_4 : decode cX9_isSheet 4 = .ok (.iload_n 0, 1) := by decide +kernel
theorem dX9_isSheet_5 : decode cX9_isSheet 5 = .ok (.iconst 4, 1) := by decide +kernel
theorem dX9_isSheet_6 : decode cX9_isSheet 6 = .ok (.if_icmp .ge 7, 3) := by decide +kernel
theorem dX9_isSheet_9 : decode cX9_isSheet 9 = .ok (.iconst 1, 1) := by decide +kernel
theorem dX9_isSheet_10 : decode cX9_isSheet 10 = .ok (.goto 4, 3) := by decide +kernel
theorem dX9_isSheet_13 : decode cX9_isSheet 13 = .ok (.iconst 0, 1) := by decide +kernel
theorem dX9_isSheet_14 : decode cX9_isSheet 14 = .ok (.ireturn, 1) := by decide +kernel
theorem dX9_isLane_0 : decode cX9_isLane 0 = .ok (.iload_n 0, 1) := by decide +kernel
theorem dX9_isLane_1 : decode cX9_isLane 1 = .ok (.ifCond .lt 12, 3) := by decide +kernel
theorem dX9_isLane_4 : decode cX9_isLane 4 = .ok (.iload_n 0, 1) := by decide +kernel
theorem dX9_isLane_5 : decode cX9_isLane 5 = .ok (.iconst 3, 1) := by decide +kernel
theorem dX9_isLane_6 : decode cX9_isLane 6 = .ok (.if_icmp .ge 7, 3) := by decide +kernel
theorem dX9_isLane_9 : decode cX9_isLane 9 = .ok (.iconst 1, 1) := by decide +kernel
theorem dX9_isLane_10 : decode cX9_isLane 10 = .ok (.goto 4, 3) := by decide +kernel
theorem dX9_isLane_13 : decode cX9_isLane 13 = .ok (.iconst 0, 1) := by decide +kernel
theorem dX9_isLane_14 : decode cX9_isLane 14 = .ok (.ireturn, 1) := by decide +kernel
theorem dX9_lies_0 : decode cX9_lies 0 = .ok (.aload_n 0, 1) := by decide +kernel
theorem dX9_lies_1 : decode cX9_lies 1 = .ok (.getfield 19, 3) := by decide +kernel
theorem dX9_lies_4 : decode cX9_lies 4 = .ok (.getfield 137, 3) := by decide +kernel
theorem dX9_lies_7 : decode cX9_lies 7 = .ok (.iload_n 1, 1) := by decide +kernel
theorem dX9_lies_8 : decode cX9_lies 8 = .ok (.ishr, 1) := by decide +kernel
theorem dX9_lies_9 : decode cX9_lies 9 = .ok (.iconst 1, 1) := by decide +kernel
theorem dX9_lies_10 : decode cX9_lies 10 = .ok (.iand, 1) := by decide +kernel
theorem dX9_lies_11 : decode cX9_lies 11 = .ok (.ifCond .eq 7, 3) := by decide +kernel
theorem dX9_lies_14 : decode cX9_lies 14 = .ok (.iconst 1, 1) := by decide +kernel
theorem dX9_lies_15 : decode cX9_lies 15 = .ok (.goto 4, 3) := by decide +kernel
theorem dX9_lies_18 : decode cX9_lies 18 = .ok (.iconst 0, 1) := by decide +kernel
theorem dX9_lies_19 : decode cX9_lies 19 = .ok (.ireturn, 1) := by decide +kernel
theorem dX9_takeOne_0 : decode cX9_takeOne 0 = .ok (.aload_n 0, 1) := by decide +kernel
theorem dX9_takeOne_1 : decode cX9_takeOne 1 = .ok (.iload_n 1, 1) := by decide +kernel
theorem dX9_takeOne_2 : decode cX9_takeOne 2 = .ok (.invokevirtual 160, 3) := by decide +kernel
theorem dX9_takeOne_5 : decode cX9_takeOne 5 = .ok (.ifCond .ne 5, 3) := by decide +kernel
theorem dX9_takeOne_8 : decode cX9_takeOne 8 = .ok (.iconst (-1), 1) := by decide +kernel
theorem dX9_takeOne_9 : decode cX9_takeOne 9 = .ok (.ireturn, 1) := by decide +kernel
theorem dX9_takeOne_10 : decode cX9_takeOne 10 = .ok (.aload_n 0, 1) := by decide +kernel
theorem dX9_takeOne_11 : decode cX9_takeOne 11 = .ok (.iload_n 1, 1) := by decide +kernel
theorem dX9_takeOne_12 : decode cX9_takeOne 12 = .ok (.invokevirtual 184, 3) := by decide +kernel
theorem dX9_takeOne_15 : decode cX9_takeOne 15 = .ok (.ifCond .ne 6, 3) := by decide +kernel
theorem dX9_takeOne_18 : decode cX9_takeOne 18 = .ok (.bipush (-2), 2) := by decide +kernel
theorem dX9_takeOne_20 : decode cX9_takeOne 20 = .ok (.ireturn, 1) := by decide +kernel
theorem dX9_takeOne_21 : decode cX9_takeOne 21 = .ok (.aload_n 0, 1) := by decide +kernel
theorem dX9_takeOne_22 : decode cX9_takeOne 22 = .ok (.getfield 19, 3) := by decide +kernel
theorem dX9_takeOne_25 : decode cX9_takeOne 25 = .ok (.dup, 1) := by decide +kernel
theorem dX9_takeOne_26 : decode cX9_takeOne 26 = .ok (.getfield 137, 3) := by decide +kernel
theorem dX9_takeOne_29 : decode cX9_takeOne 29 = .ok (.iconst 1, 1) := by decide +kernel
theorem dX9_takeOne_30 : decode cX9_takeOne 30 = .ok (.iload_n 1, 1) := by decide +kernel
theorem dX9_takeOne_31 : decode cX9_takeOne 31 = .ok (.ishl, 1) := by decide +kernel
theorem dX9_takeOne_32 : decode cX9_takeOne 32 = .ok (.iconst (-1), 1) := by decide +kernel
theorem dX9_takeOne_33 : decode cX9_takeOne 33 = .ok (.ixor, 1) := by decide +kernel
theorem dX9_takeOne_34 : decode cX9_takeOne 34 = .ok (.iand, 1) := by decide +kernel
theorem dX9_takeOne_35 : decode cX9_takeOne 35 = .ok (.putfield 137, 3) := by decide +kernel
theorem dX9_takeOne_38 : decode cX9_takeOne 38 = .ok (.iconst 0, 1) := by decide +kernel
theorem dX9_takeOne_39 : decode cX9_takeOne 39 = .ok (.ireturn, 1) := by decide +kernel
theorem dX9_canBeLaid_0 : decode cX9_canBeLaid 0 = .ok (.iload_n 0, 1) := by decide +kernel
theorem dX9_canBeLaid_1 : decode cX9_canBeLaid 1 = .ok (.ifCond .eq 16, 3) := by decide +kernel
theorem dX9_canBeLaid_4 : decode cX9_canBeLaid 4 = .ok (.iload_n 0, 1) := by decide +kernel
theorem dX9_canBeLaid_5 : decode cX9_canBeLaid 5 = .ok (.invokestatic 173, 3) := by decide +kernel
theorem dX9_canBeLaid_8 : decode cX9_canBeLaid 8 = .ok (.bipush 12, 2) := by decide +kernel
theorem dX9_canBeLaid_10 : decode cX9_canBeLaid 10 = .ok (.if_icmp .gt 7, 3) := by decide +kernel
theorem dX9_canBeLaid_13 : decode cX9_canBeLaid 13 = .ok (.iconst 1, 1) := by decide +kernel
theorem dX9_canBeLaid_14 : decode cX9_canBeLaid 14 = .ok (.goto 4, 3) := by decide +kernel
theorem dX9_canBeLaid_17 : decode cX9_canBeLaid 17 = .ok (.iconst 0, 1) := by decide +kernel
theorem dX9_canBeLaid_18 : decode cX9_canBeLaid 18 = .ok (.ireturn, 1) := by decide +kernel
theorem dX9_countedSquares_0 : decode cX9_countedSquares 0 = .ok (.iconst 0, 1) := by decide +kernel
theorem dX9_countedSquares_1 : decode cX9_countedSquares 1 = .ok (.istore_n 1, 1) := by decide +kernel
theorem dX9_countedSquares_2 : decode cX9_countedSquares 2 = .ok (.iconst 1, 1) := by decide +kernel
theorem dX9_countedSquares_3 : decode cX9_countedSquares 3 = .ok (.istore_n 2, 1) := by decide +kernel
theorem dX9_countedSquares_4 : decode cX9_countedSquares 4 = .ok (.iload_n 2, 1) := by decide +kernel
theorem dX9_countedSquares_5 : decode cX9_countedSquares 5 = .ok (.iconst 3, 1) := by decide +kernel
theorem dX9_countedSquares_6 : decode cX9_countedSquares 6 = .ok (.if_icmp .gt 35, 3) := by decide +kernel
theorem dX9_countedSquares_9 : decode cX9_countedSquares 9 = .ok (.aload_n 0, 1) := by decide +kernel
theorem dX9_countedSquares_10 : decode cX9_countedSquares 10 = .ok (.getfield 19, 3) := by decide +kernel
theorem dX9_countedSquares_13 : decode cX9_countedSquares 13 = .ok (.getfield 140, 3) := by decide +kernel
theorem dX9_countedSquares_16 : decode cX9_countedSquares 16 = .ok (.iload_n 2, 1) := by decide +kernel
theorem dX9_countedSquares_17 : decode cX9_countedSquares 17 = .ok (.ishr, 1) := by decide +kernel
theorem dX9_countedSquares_18 : decode cX9_countedSquares 18 = .ok (.iconst 1, 1) := by decide +kernel
theorem dX9_countedSquares_19 : decode cX9_countedSquares 19 = .ok (.iand, 1) := by decide +kernel
theorem dX9_countedSquares_20 : decode cX9_countedSquares 20 = .ok (.ifCond .eq 15, 3) := by decide +kernel
theorem dX9_countedSquares_23 : decode cX9_countedSquares 23 = .ok (.iload_n 1, 1) := by decide +kernel
theorem dX9_countedSquares_24 : decode cX9_countedSquares 24 = .ok (.aload_n 0, 1) := by decide +kernel
theorem dX9_countedSquares_25 : decode cX9_countedSquares 25 = .ok (.getfield 10, 3) := by decide +kernel
theorem dX9_countedSquares_28 : decode cX9_countedSquares 28 = .ok (.getfield 170, 3) := by decide +kernel
theorem dX9_countedSquares_31 : decode cX9_countedSquares 31 = .ok (.iload_n 2, 1) := by decide +kernel
theorem dX9_countedSquares_32 : decode cX9_countedSquares 32 = .ok (.iaload, 1) := by decide +kernel
theorem dX9_countedSquares_33 : decode cX9_countedSquares 33 = .ok (.ior, 1) := by decide +kernel
theorem dX9_countedSquares_34 : decode cX9_countedSquares 34 = .ok (.istore_n 1, 1) := by decide +kernel
theorem dX9_countedSquares_35 : decode cX9_countedSquares 35 = .ok (.iinc 2 1, 3) := by decide +kernel
theorem dX9_countedSquares_38 : decode cX9_countedSquares 38 = .ok (.goto (-34), 3) := by decide +kernel
theorem dX9_countedSquares_41 : decode cX9_countedSquares 41 = .ok (.iload_n 1, 1) := by decide +kernel
theorem dX9_countedSquares_42 : decode cX9_countedSquares 42 = .ok (.ireturn, 1) := by decide +kernel
theorem dX9_leftSquares_0 : decode cX9_leftSquares 0 = .ok (.aload_n 0, 1) := by decide +kernel
theorem dX9_leftSquares_1 : decode cX9_leftSquares 1 = .ok (.getfield 10, 3) := by decide +kernel
theorem dX9_leftSquares_4 : decode cX9_leftSquares 4 = .ok (.iload_n 1, 1) := by decide +kernel
theorem dX9_leftSquares_5 : decode cX9_leftSquares 5 = .ok (.invokevirtual 156, 3) := by decide +kernel
theorem dX9_leftSquares_8 : decode cX9_leftSquares 8 = .ok (.aload_n 0, 1) := by decide +kernel
theorem dX9_leftSquares_9 : decode cX9_leftSquares 9 = .ok (.invokevirtual 224, 3) := by decide +kernel
theorem dX9_leftSquares_12 : decode cX9_leftSquares 12 = .ok (.iand, 1) := by decide +kernel
theorem dX9_leftSquares_13 : decode cX9_leftSquares 13 = .ok (.ireturn, 1) := by decide +kernel
theorem dX9_leftOf_0 : decode cX9_leftOf 0 = .ok (.aload_n 0, 1) := by decide +kernel
theorem dX9_leftOf_1 : decode cX9_leftOf 1 = .ok (.iload_n 1, 1) := by decide +kernel
theorem dX9_leftOf_2 : decode cX9_leftOf 2 = .ok (.invokevirtual 187, 3) := by decide +kernel
theorem dX9_leftOf_5 : decode cX9_leftOf 5 = .ok (.invokestatic 173, 3) := by decide +kernel
theorem dX9_leftOf_8 : decode cX9_leftOf 8 = .ok (.ireturn, 1) := by decide +kernel
theorem dX9_waysWithout_0 : decode cX9_waysWithout 0 = .ok (.iload_n 2, 1) := by decide +kernel
theorem dX9_waysWithout_1 : decode cX9_waysWithout 1 = .ok (.istore 5, 2) := by decide +kernel
theorem dX9_waysWithout_3 : decode cX9_waysWithout 3 = .ok (.iload 5, 2) := by decide +kernel
theorem dX9_waysWithout_5 : decode cX9_waysWithout 5 = .ok (.aload_n 0, 1) := by decide +kernel
theorem dX9_waysWithout_6 : decode cX9_waysWithout 6 = .ok (.getfield 134, 3) := by decide +kernel
theorem dX9_waysWithout_9 : decode cX9_waysWithout 9 = .ok (.if_icmp .ge 18, 3) := by decide +kernel
theorem dX9_waysWithout_12 : decode cX9_waysWithout 12 = .ok (.iload_n 1, 1) := by decide +kernel
theorem dX9_waysWithout_13 : decode cX9_waysWithout 13 = .ok (.iload 5, 2) := by decide +kernel
theorem dX9_waysWithout_15 : decode cX9_waysWithout 15 = .ok (.ishr, 1) := by decide +kernel
theorem dX9_waysWithout_16 : decode cX9_waysWithout 16 = .ok (.iconst 1, 1) := by decide +kernel
theorem dX9_waysWithout_17 : decode cX9_waysWithout 17 = .ok (.iand, 1) := by decide +kernel
theorem dX9_waysWithout_18 : decode cX9_waysWithout 18 = .ok (.ifCond .ne 9, 3) := by decide +kernel
theorem dX9_waysWithout_21 : decode cX9_waysWithout 21 = .ok (.iinc 5 1, 3) := by decide +kernel
theorem dX9_waysWithout_24 : decode cX9_waysWithout 24 = .ok (.goto (-21), 3) := by decide +kernel
theorem dX9_waysWithout_27 : decode cX9_waysWithout 27 = .ok (.iload 5, 2) := by decide +kernel
theorem dX9_waysWithout_29 : decode cX9_waysWithout 29 = .ok (.aload_n 0, 1) := by decide +kernel
theorem dX9_waysWithout_30 : decode cX9_waysWithout 30 = .ok (.getfield 134, 3) := by decide +kernel
theorem dX9_waysWithout_33 : decode cX9_waysWithout 33 = .ok (.if_icmp .lt 13, 3) := by decide +kernel
theorem dX9_waysWithout_36 : decode cX9_waysWithout 36 = .ok (.lconst 1, 1) := by decide +kernel
theorem dX9_waysWithout_37 : decode cX9_waysWithout 37 = .ok (.iload 4, 2) := by decide +kernel
theorem dX9_waysWithout_39 : decode cX9_waysWithout 39 = .ok (.iload_n 3, 1) := by decide +kernel
theorem dX9_waysWithout_40 : decode cX9_waysWithout 40 = .ok (.invokestatic 173, 3) := by decide +kernel
theorem dX9_waysWithout_43 : decode cX9_waysWithout 43 = .ok (.isub, 1) := by decide +kernel
theorem dX9_waysWithout_44 : decode cX9_waysWithout 44 = .ok (.lshl, 1) := by decide +kernel
theorem dX9_waysWithout_45 : decode cX9_waysWithout 45 = .ok (.lreturn, 1) := by decide +kernel
theorem dX9_waysWithout_46 : decode cX9_waysWithout 46 = .ok (.aload_n 0, 1) := by decide +kernel
theorem dX9_waysWithout_47 : decode cX9_waysWithout 47 = .ok (.iload_n 1, 1) := by decide +kernel
theorem dX9_waysWithout_48 : decode cX9_waysWithout 48 = .ok (.iload 5, 2) := by decide +kernel
theorem dX9_waysWithout_50 : decode cX9_waysWithout 50 = .ok (.iconst 1, 1) := by decide +kernel
theorem dX9_waysWithout_51 : decode cX9_waysWithout 51 = .ok (.iadd, 1) := by decide +kernel
theorem dX9_waysWithout_52 : decode cX9_waysWithout 52 = .ok (.iload_n 3, 1) := by decide +kernel
theorem dX9_waysWithout_53 : decode cX9_waysWithout 53 = .ok (.iload 4, 2) := by decide +kernel
theorem dX9_waysWithout_55 : decode cX9_waysWithout 55 = .ok (.invokestatic 263, 3) := by decide +kernel
theorem dX9_waysWithout_58 : decode cX9_waysWithout 58 = .ok (.aload_n 0, 1) := by decide +kernel
theorem dX9_waysWithout_59 : decode cX9_waysWithout 59 = .ok (.iload_n 1, 1) := by decide +kernel
theorem dX9_waysWithout_60 : decode cX9_waysWithout 60 = .ok (.iload 5, 2) := by decide +kernel
theorem dX9_waysWithout_62 : decode cX9_waysWithout 62 = .ok (.iconst 1, 1) := by decide +kernel
theorem dX9_waysWithout_63 : decode cX9_waysWithout 63 = .ok (.iadd, 1) := by decide +kernel
theorem dX9_waysWithout_64 : decode cX9_waysWithout 64 = .ok (.iload_n 3, 1) := by decide +kernel
theorem dX9_waysWithout_65 : decode cX9_waysWithout 65 = .ok (.aload_n 0, 1) := by decide +kernel
theorem dX9_waysWithout_66 : decode cX9_waysWithout 66 = .ok (.getfield 153, 3) := by decide +kernel
theorem dX9_waysWithout_69 : decode cX9_waysWithout 69 = .ok (.iload 5, 2) := by decide +kernel
theorem dX9_waysWithout_71 : decode cX9_waysWithout 71 = .ok (.iaload, 1) := by decide +kernel
theorem dX9_waysWithout_72 : decode cX9_waysWithout 72 = .ok (.ior, 1) := by decide +kernel
theorem dX9_waysWithout_73 : decode cX9_waysWithout 73 = .ok (.iload 4, 2) := by decide +kernel
theorem dX9_waysWithout_75 : decode cX9_waysWithout 75 = .ok (.invokestatic 263, 3) := by decide +kernel
theorem dX9_waysWithout_78 : decode cX9_waysWithout 78 = .ok (.lsub, 1) := by decide +kernel
theorem dX9_waysWithout_79 : decode cX9_waysWithout 79 = .ok (.lreturn, 1) := by decide +kernel
theorem dX9_inLowestTerms_0 : decode cX9_inLowestTerms 0 = .ok (.lload_n 0, 1) := by decide +kernel
theorem dX9_inLowestTerms_1 : decode cX9_inLowestTerms 1 = .ok (.lstore 4, 2) := by decide +kernel
theorem dX9_inLowestTerms_3 : decode cX9_inLowestTerms 3 = .ok (.iload_n 2, 1) := by decide +kernel
theorem dX9_inLowestTerms_4 : decode cX9_inLowestTerms 4 = .ok (.istore 6, 2) := by decide +kernel
theorem dX9_inLowestTerms_6 : decode cX9_inLowestTerms 6 = .ok (.iconst 0, 1) := by decide +kernel
theorem dX9_inLowestTerms_7 : decode cX9_inLowestTerms 7 = .ok (.istore 7, 2) := by decide +kernel
theorem dX9_inLowestTerms_9 : decode cX9_inLowestTerms 9 = .ok (.iload 7, 2) := by decide +kernel
theorem dX9_inLowestTerms_11 : decode cX9_inLowestTerms 11 = .ok (.iload_n 2, 1) := by decide +kernel
theorem dX9_inLowestTerms_12 : decode cX9_inLowestTerms 12 = .ok (.if_icmp .ge 27, 3) := by decide +kernel
theorem dX9_inLowestTerms_15 : decode cX9_inLowestTerms 15 = .ok (.lload 4, 2) := by decide +kernel
theorem dX9_inLowestTerms_17 : decode cX9_inLowestTerms 17 = .ok (.lconst 1, 1) := by decide +kernel
theorem dX9_inLowestTerms_18 : decode cX9_inLowestTerms 18 = .ok (.land, 1) := by decide +kernel
theorem dX9_inLowestTerms_19 : decode cX9_inLowestTerms 19 = .ok (.lconst 0, 1) := by decide +kernel
theorem dX9_inLowestTerms_20 : decode cX9_inLowestTerms 20 = .ok (.lcmp, 1) := by decide +kernel
theorem dX9_inLowestTerms_21 : decode cX9_inLowestTerms 21 = .ok (.ifCond .ne 18, 3) := by decide +kernel
theorem dX9_inLowestTerms_24 : decode cX9_inLowestTerms 24 = .ok (.lload 4, 2) := by decide +kernel
theorem dX9_inLowestTerms_26 : decode cX9_inLowestTerms 26 = .ok (.iconst 1, 1) := by decide +kernel
theorem dX9_inLowestTerms_27 : decode cX9_inLowestTerms 27 = .ok (.lshr, 1) := by decide +kernel
theorem dX9_inLowestTerms_28 : decode cX9_inLowestTerms 28 = .ok (.lstore 4, 2) := by decide +kernel
theorem dX9_inLowestTerms_30 : decode cX9_inLowestTerms 30 = .ok (.iinc 6 (-1), 3) := by decide +kernel
theorem dX9_inLowestTerms_33 : decode cX9_inLowestTerms 33 = .ok (.iinc 7 1, 3) := by decide +kernel
theorem dX9_inLowestTerms_36 : decode cX9_inLowestTerms 36 = .ok (.goto (-27), 3) := by decide +kernel
theorem dX9_inLowestTerms_39 : decode cX9_inLowestTerms 39 = .ok (.iload_n 3, 1) := by decide +kernel
theorem dX9_inLowestTerms_40 : decode cX9_inLowestTerms 40 = .ok (.ifCond .ne 8, 3) := by decide +kernel
theorem dX9_inLowestTerms_43 : decode cX9_inLowestTerms 43 = .ok (.lload 4, 2) := by decide +kernel
theorem dX9_inLowestTerms_45 : decode cX9_inLowestTerms 45 = .ok (.goto 7, 3) := by decide +kernel
theorem dX9_inLowestTerms_48 : decode cX9_inLowestTerms 48 = .ok (.lconst 1, 1) := by decide +kernel
theorem dX9_inLowestTerms_49 : decode cX9_inLowestTerms 49 = .ok (.iload 6, 2) := by decide +kernel
theorem dX9_inLowestTerms_51 : decode cX9_inLowestTerms 51 = .ok (.lshl, 1) := by decide +kernel
theorem dX9_inLowestTerms_52 : decode cX9_inLowestTerms 52 = .ok (.lreturn, 1) := by decide +kernel
theorem dJ0_length_8abf5_0 : decode cJ0_length_8abf5 0 = .ok (.aload_n 0, 1) := by decide +kernel
theorem dJ0_length_8abf5_1 : decode cJ0_length_8abf5 1 = .ok (.getfield 9, 3) := by decide +kernel
theorem dJ0_length_8abf5_4 : decode cJ0_length_8abf5 4 = .ok (.arraylength, 1) := by decide +kernel
theorem dJ0_length_8abf5_5 : decode cJ0_length_8abf5 5 = .ok (.aload_n 0, 1) := by decide +kernel
theorem dJ0_length_8abf5_6 : decode cJ0_length_8abf5 6 = .ok (.invokevirtual 335, 3) := by decide +kernel
theorem dJ0_length_8abf5_9 : decode cJ0_length_8abf5 9 = .ok (.ishr, 1) := by decide +kernel
theorem dJ0_length_8abf5_10 : decode cJ0_length_8abf5 10 = .ok (.ireturn, 1) := by decide +kernel
theorem dJ0_charAt_5068e_0 : decode cJ0_charAt_5068e 0 = .ok (.aload_n 0, 1) := by decide +kernel
theorem dJ0_charAt_5068e_1 : decode cJ0_charAt_5068e 1 = .ok (.invokevirtual 492, 3) := by decide +kernel
theorem dJ0_charAt_5068e_4 : decode cJ0_charAt_5068e 4 = .ok (.ifCond .eq 12, 3) := by decide +kernel
theorem dJ0_charAt_5068e_7 : decode cJ0_charAt_5068e 7 = .ok (.aload_n 0, 1) := by decide +kernel
theorem dJ0_charAt_5068e_8 : decode cJ0_charAt_5068e 8 = .ok (.getfield 9, 3) := by decide +kernel
theorem dJ0_charAt_5068e_11 : decode cJ0_charAt_5068e 11 = .ok (.iload_n 1, 1) := by decide +kernel
theorem dJ0_charAt_5068e_12 : decode cJ0_charAt_5068e 12 = .ok (.invokestatic 495, 3) := by decide +kernel
theorem dJ0_charAt_5068e_15 : decode cJ0_charAt_5068e 15 = .ok (.ireturn, 1) := by decide +kernel
theorem dJ0_charAt_5068e_16 : decode cJ0_charAt_5068e 16 = .ok (.aload_n 0, 1) := by decide +kernel
theorem dJ0_charAt_5068e_17 : decode cJ0_charAt_5068e 17 = .ok (.getfield 9, 3) := by decide +kernel
theorem dJ0_charAt_5068e_20 : decode cJ0_charAt_5068e 20 = .ok (.iload_n 1, 1) := by decide +kernel
theorem dJ0_charAt_5068e_21 : decode cJ0_charAt_5068e 21 = .ok (.invokestatic 498, 3) := by decide +kernel
theorem dJ0_charAt_5068e_24 : decode cJ0_charAt_5068e 24 = .ok (.ireturn, 1) := by decide +kernel
theorem dJ0_coder_7d493_0 : decode cJ0_coder_7d493 0 = .ok (.getstatic 38, 3) := by decide +kernel
theorem dJ0_coder_7d493_3 : decode cJ0_coder_7d493 3 = .ok (.ifCond .eq 10, 3) := by decide +kernel
theorem dJ0_coder_7d493_6 : decode cJ0_coder_7d493 6 = .ok (.aload_n 0, 1) := by decide +kernel
theorem dJ0_coder_7d493_7 : decode cJ0_coder_7d493 7 = .ok (.getfield 15, 3) := by decide +kernel
theorem dJ0_coder_7d493_10 : decode cJ0_coder_7d493 10 = .ok (.goto 4, 3) := by decide +kernel
theorem dJ0_coder_7d493_13 : decode cJ0_coder_7d493 13 = .ok (.iconst 1, 1) := by decide +kernel
theorem dJ0_coder_7d493_14 : decode cJ0_coder_7d493 14 = .ok (.ireturn, 1) := by decide +kernel
theorem dJ0_isLatin1_aae02_0 : decode cJ0_isLatin1_aae02 0 = .ok (.getstatic 38, 3) := by decide +kernel
theorem dJ0_isLatin1_aae02_3 : decode cJ0_isLatin1_aae02 3 = .ok (.ifCond .eq 14, 3) := by decide +kernel
theorem dJ0_isLatin1_aae02_6 : decode cJ0_isLatin1_aae02 6 = .ok (.aload_n 0, 1) := by decide +kernel
theorem dJ0_isLatin1_aae02_7 : decode cJ0_isLatin1_aae02 7 = .ok (.getfield 15, 3) := by decide +kernel
theorem dJ0_isLatin1_aae02_10 : decode cJ0_isLatin1_aae02 10 = .ok (.ifCond .ne 7, 3) := by decide +kernel
theorem dJ0_isLatin1_aae02_13 : decode cJ0_isLatin1_aae02 13 = .ok (.iconst 1, 1) := by decide +kernel
theorem dJ0_isLatin1_aae02_14 : decode cJ0_isLatin1_aae02 14 = .ok (.goto 4, 3) := by decide +kernel
theorem dJ0_isLatin1_aae02_17 : decode cJ0_isLatin1_aae02 17 = .ok (.iconst 0, 1) := by decide +kernel
theorem dJ0_isLatin1_aae02_18 : decode cJ0_isLatin1_aae02 18 = .ok (.ireturn, 1) := by decide +kernel
theorem dJ0_checkIndex_df160_0 : decode cJ0_checkIndex_df160 0 = .ok (.iload_n 0, 1) := by decide +kernel
theorem dJ0_checkIndex_df160_1 : decode cJ0_checkIndex_df160 1 = .ok (.iload_n 1, 1) := by decide +kernel
theorem dJ0_checkIndex_df160_2 : decode cJ0_checkIndex_df160 2 = .ok (.getstatic 1053, 3) := by decide +kernel
theorem dJ0_checkIndex_df160_5 : decode cJ0_checkIndex_df160 5 = .ok (.invokestatic 1059, 3) := by decide +kernel
theorem dJ0_checkIndex_df160_8 : decode cJ0_checkIndex_df160 8 = .ok (.pop, 1) := by decide +kernel
theorem dJ0_checkIndex_df160_9 : decode cJ0_checkIndex_df160 9 = .ok (.return_, 1) := by decide +kernel
theorem dJ1_charAt_3b067_0 : decode cJ1_charAt_3b067 0 = .ok (.iload_n 1, 1) := by decide +kernel
theorem dJ1_charAt_3b067_1 : decode cJ1_charAt_3b067 1 = .ok (.aload_n 0, 1) := by decide +kernel
theorem dJ1_charAt_3b067_2 : decode cJ1_charAt_3b067 2 = .ok (.arraylength, 1) := by decide +kernel
theorem dJ1_charAt_3b067_3 : decode cJ1_charAt_3b067 3 = .ok (.invokestatic 9, 3) := by decide +kernel
theorem dJ1_charAt_3b067_6 : decode cJ1_charAt_3b067 6 = .ok (.aload_n 0, 1) := by decide +kernel
theorem dJ1_charAt_3b067_7 : decode cJ1_charAt_3b067 7 = .ok (.iload_n 1, 1) := by decide +kernel
theorem dJ1_charAt_3b067_8 : decode cJ1_charAt_3b067 8 = .ok (.baload, 1) := by decide +kernel
theorem dJ1_charAt_3b067_9 : decode cJ1_charAt_3b067 9 = .ok (.sipush 255, 3) := by decide +kernel
theorem dJ1_charAt_3b067_12 : decode cJ1_charAt_3b067 12 = .ok (.iand, 1) := by decide +kernel
theorem dJ1_charAt_3b067_13 : decode cJ1_charAt_3b067 13 = .ok (.i2c, 1) := by decide +kernel
theorem dJ1_charAt_3b067_14 : decode cJ1_charAt_3b067 14 = .ok (.ireturn, 1) := by decide +kernel
theorem dJ2_getChar_3b067_0 : decode cJ2_getChar_3b067 0 = .ok (.getstatic 44, 3) := by decide +kernel
theorem dJ2_getChar_3b067_3 : decode cJ2_getChar_3b067 3 = .ok (.ifCond .ne 25, 3) := by decide +kernel
theorem dJ2_getChar_3b067_6 : decode cJ2_getChar_3b067 6 = .ok (.iload_n 1, 1) := by decide +kernel
theorem dJ2_getChar_3b067_7 : decode cJ2_getChar_3b067 7 = .ok (.ifCond .lt 11, 3) := by decide +kernel
theorem dJ2_getChar_3b067_10 : decode cJ2_getChar_3b067 10 = .ok (.iload_n 1, 1) := by decide +kernel
theorem dJ2_getChar_3b067_11 : decode cJ2_getChar_3b067 11 = .ok (.aload_n 0, 1) := by decide +kernel
theorem dJ2_getChar_3b067_12 : decode cJ2_getChar_3b067 12 = .ok (.invokestatic 48, 3) := by decide +kernel
theorem dJ2_getChar_3b067_15 : decode cJ2_getChar_3b067 15 = .ok (.if_icmp .lt 13, 3) := by decide +kernel
theorem dJ2_getChar_3b067_18 : decode cJ2_getChar_3b067 18 = .ok (.new 52, 3) := by decide +kernel
theorem dJ2_getChar_3b067_21 : decode cJ2_getChar_3b067 21 = .ok (.dup, 1) := by decide +kernel
theorem dJ2_getChar_3b067_22 : decode cJ2_getChar_3b067 22 = .ok (.ldc 54, 2) := by decide +kernel
theorem dJ2_getChar_3b067_24 : decode cJ2_getChar_3b067 24 = .ok (.invokespecial 56, 3) := by decide +kernel
theorem dJ2_getChar_3b067_27 : decode cJ2_getChar_3b067 27 = .ok (.athrow, 1) := by decide +kernel
theorem dJ2_getChar_3b067_28 : decode cJ2_getChar_3b067 28 = .ok (.iload_n 1, 1) := by decide +kernel
theorem dJ2_getChar_3b067_29 : decode cJ2_getChar_3b067 29 = .ok (.iconst 1, 1) := by decide +kernel
theorem dJ2_getChar_3b067_30 : decode cJ2_getChar_3b067 30 = .ok (.ishl, 1) := by decide +kernel
theorem dJ2_getChar_3b067_31 : decode cJ2_getChar_3b067 31 = .ok (.istore_n 1, 1) := by decide +kernel
theorem dJ2_getChar_3b067_32 : decode cJ2_getChar_3b067 32 = .ok (.aload_n 0, 1) := by decide +kernel
theorem dJ2_getChar_3b067_33 : decode cJ2_getChar_3b067 33 = .ok (.iload_n 1, 1) := by decide +kernel
theorem dJ2_getChar_3b067_34 : decode cJ2_getChar_3b067 34 = .ok (.iinc 1 1, 3) := by decide +kernel
theorem dJ2_getChar_3b067_37 : decode cJ2_getChar_3b067 37 = .ok (.baload, 1) := by decide +kernel
theorem dJ2_getChar_3b067_38 : decode cJ2_getChar_3b067 38 = .ok (.sipush 255, 3) := by decide +kernel
theorem dJ2_getChar_3b067_41 : decode cJ2_getChar_3b067 41 = .ok (.iand, 1) := by decide +kernel
theorem dJ2_getChar_3b067_42 : decode cJ2_getChar_3b067 42 = .ok (.getstatic 59, 3) := by decide +kernel
theorem dJ2_getChar_3b067_45 : decode cJ2_getChar_3b067 45 = .ok (.ishl, 1) := by decide +kernel
theorem dJ2_getChar_3b067_46 : decode cJ2_getChar_3b067 46 = .ok (.aload_n 0, 1) := by decide +kernel
theorem dJ2_getChar_3b067_47 : decode cJ2_getChar_3b067 47 = .ok (.iload_n 1, 1) := by decide +kernel
theorem dJ2_getChar_3b067_48 : decode cJ2_getChar_3b067 48 = .ok (.baload, 1) := by decide +kernel
theorem dJ2_getChar_3b067_49 : decode cJ2_getChar_3b067 49 = .ok (.sipush 255, 3) := by decide +kernel
theorem dJ2_getChar_3b067_52 : decode cJ2_getChar_3b067 52 = .ok (.iand, 1) := by decide +kernel
theorem dJ2_getChar_3b067_53 : decode cJ2_getChar_3b067 53 = .ok (.getstatic 63, 3) := by decide +kernel
theorem dJ2_getChar_3b067_56 : decode cJ2_getChar_3b067 56 = .ok (.ishl, 1) := by decide +kernel
theorem dJ2_getChar_3b067_57 : decode cJ2_getChar_3b067 57 = .ok (.ior, 1) := by decide +kernel
theorem dJ2_getChar_3b067_58 : decode cJ2_getChar_3b067 58 = .ok (.i2c, 1) := by decide +kernel
theorem dJ2_getChar_3b067_59 : decode cJ2_getChar_3b067 59 = .ok (.ireturn, 1) := by decide +kernel
theorem dJ2_length_9d52b_0 : decode cJ2_length_9d52b 0 = .ok (.aload_n 0, 1) := by decide +kernel
theorem dJ2_length_9d52b_1 : decode cJ2_length_9d52b 1 = .ok (.arraylength, 1) := by decide +kernel
theorem dJ2_length_9d52b_2 : decode cJ2_length_9d52b 2 = .ok (.iconst 1, 1) := by decide +kernel
theorem dJ2_length_9d52b_3 : decode cJ2_length_9d52b 3 = .ok (.ishr, 1) := by decide +kernel
theorem dJ2_length_9d52b_4 : decode cJ2_length_9d52b 4 = .ok (.ireturn, 1) := by decide +kernel
theorem dJ2_charAt_3b067_0 : decode cJ2_charAt_3b067 0 = .ok (.iload_n 1, 1) := by decide +kernel
theorem dJ2_charAt_3b067_1 : decode cJ2_charAt_3b067 1 = .ok (.aload_n 0, 1) := by decide +kernel
theorem dJ2_charAt_3b067_2 : decode cJ2_charAt_3b067 2 = .ok (.invokestatic 67, 3) := by decide +kernel
theorem dJ2_charAt_3b067_5 : decode cJ2_charAt_3b067 5 = .ok (.aload_n 0, 1) := by decide +kernel
theorem dJ2_charAt_3b067_6 : decode cJ2_charAt_3b067 6 = .ok (.iload_n 1, 1) := by decide +kernel
theorem dJ2_charAt_3b067_7 : decode cJ2_charAt_3b067 7 = .ok (.invokestatic 71, 3) := by decide +kernel
theorem dJ2_charAt_3b067_10 : decode cJ2_charAt_3b067 10 = .ok (.ireturn, 1) := by decide +kernel
theorem dJ2_checkIndex_2214a_0 : decode cJ2_checkIndex_2214a 0 = .ok (.iload_n 0, 1) := by decide +kernel
theorem dJ2_checkIndex_2214a_1 : decode cJ2_checkIndex_2214a 1 = .ok (.aload_n 1, 1) := by decide +kernel
theorem dJ2_checkIndex_2214a_2 : decode cJ2_checkIndex_2214a 2 = .ok (.invokestatic 48, 3) := by decide +kernel
theorem dJ2_checkIndex_2214a_5 : decode cJ2_checkIndex_2214a 5 = .ok (.invokestatic 414, 3) := by decide +kernel
theorem dJ2_checkIndex_2214a_8 : decode cJ2_checkIndex_2214a 8 = .ok (.return_, 1) := by decide +kernel
theorem dJ3_checkIndex_8e157_0 : decode cJ3_checkIndex_8e157 0 = .ok (.iload_n 0, 1) := by decide +kernel
theorem dJ3_checkIndex_8e157_1 : decode cJ3_checkIndex_8e157 1 = .ok (.ifCond .lt 8, 3) := by decide +kernel
theorem dJ3_checkIndex_8e157_4 : decode cJ3_checkIndex_8e157 4 = .ok (.iload_n 0, 1) := by decide +kernel
theorem dJ3_checkIndex_8e157_5 : decode cJ3_checkIndex_8e157 5 = .ok (.iload_n 1, 1) := by decide +kernel
theorem dJ3_checkIndex_8e157_6 : decode cJ3_checkIndex_8e157 6 = .ok (.if_icmp .lt 10, 3) := by decide +kernel
theorem dJ3_checkIndex_8e157_9 : decode cJ3_checkIndex_8e157 9 = .ok (.aload_n 2, 1) := by decide +kernel
theorem dJ3_checkIndex_8e157_10 : decode cJ3_checkIndex_8e157 10 = .ok (.iload_n 0, 1) := by decide +kernel
theorem dJ3_checkIndex_8e157_11 : decode cJ3_checkIndex_8e157 11 = .ok (.iload_n 1, 1) := by decide +kernel
theorem dJ3_checkIndex_8e157_12 : decode cJ3_checkIndex_8e157 12 = .ok (.invokestatic 95, 3) := by decide +kernel
theorem dJ3_checkIndex_8e157_15 : decode cJ3_checkIndex_8e157 15 = .ok (.athrow, 1) := by decide +kernel
theorem dJ3_checkIndex_8e157_16 : decode cJ3_checkIndex_8e157 16 = .ok (.iload_n 0, 1) := by decide +kernel
theorem dJ3_checkIndex_8e157_17 : decode cJ3_checkIndex_8e157 17 = .ok (.ireturn, 1) := by decide +kernel
theorem dJ6_bitCount_0f7a4_0 : decode cJ6_bitCount_0f7a4 0 = .ok (.iload_n 0, 1) := by decide +kernel
theorem dJ6_bitCount_0f7a4_1 : decode cJ6_bitCount_0f7a4 1 = .ok (.iload_n 0, 1) := by decide +kernel
theorem dJ6_bitCount_0f7a4_2 : decode cJ6_bitCount_0f7a4 2 = .ok (.iconst 1, 1) := by decide +kernel
theorem dJ6_bitCount_0f7a4_3 : decode cJ6_bitCount_0f7a4 3 = .ok (.iushr, 1) := by decide +kernel
theorem dJ6_bitCount_0f7a4_4 : decode cJ6_bitCount_0f7a4 4 = .ok (.ldc_w 265, 3) := by decide +kernel
theorem dJ6_bitCount_0f7a4_7 : decode cJ6_bitCount_0f7a4 7 = .ok (.iand, 1) := by decide +kernel
theorem dJ6_bitCount_0f7a4_8 : decode cJ6_bitCount_0f7a4 8 = .ok (.isub, 1) := by decide +kernel
theorem dJ6_bitCount_0f7a4_9 : decode cJ6_bitCount_0f7a4 9 = .ok (.istore_n 0, 1) := by decide +kernel
theorem dJ6_bitCount_0f7a4_10 : decode cJ6_bitCount_0f7a4 10 = .ok (.iload_n 0, 1) := by decide +kernel
theorem dJ6_bitCount_0f7a4_11 : decode cJ6_bitCount_0f7a4 11 = .ok (.ldc_w 266, 3) := by decide +kernel
theorem dJ6_bitCount_0f7a4_14 : decode cJ6_bitCount_0f7a4 14 = .ok (.iand, 1) := by decide +kernel
theorem dJ6_bitCount_0f7a4_15 : decode cJ6_bitCount_0f7a4 15 = .ok (.iload_n 0, 1) := by decide +kernel
theorem dJ6_bitCount_0f7a4_16 : decode cJ6_bitCount_0f7a4 16 = .ok (.iconst 2, 1) := by decide +kernel
theorem dJ6_bitCount_0f7a4_17 : decode cJ6_bitCount_0f7a4 17 = .ok (.iushr, 1) := by decide +kernel
theorem dJ6_bitCount_0f7a4_18 : decode cJ6_bitCount_0f7a4 18 = .ok (.ldc_w 266, 3) := by decide +kernel
theorem dJ6_bitCount_0f7a4_21 : decode cJ6_bitCount_0f7a4 21 = .ok (.iand, 1) := by decide +kernel
theorem dJ6_bitCount_0f7a4_22 : decode cJ6_bitCount_0f7a4 22 = .ok (.iadd, 1) := by decide +kernel
theorem dJ6_bitCount_0f7a4_23 : decode cJ6_bitCount_0f7a4 23 = .ok (.istore_n 0, 1) := by decide +kernel
theorem dJ6_bitCount_0f7a4_24 : decode cJ6_bitCount_0f7a4 24 = .ok (.iload_n 0, 1) := by decide +kernel
theorem dJ6_bitCount_0f7a4_25 : decode cJ6_bitCount_0f7a4 25 = .ok (.iload_n 0, 1) := by decide +kernel
theorem dJ6_bitCount_0f7a4_26 : decode cJ6_bitCount_0f7a4 26 = .ok (.iconst 4, 1) := by decide +kernel
theorem dJ6_bitCount_0f7a4_27 : decode cJ6_bitCount_0f7a4 27 = .ok (.iushr, 1) := by decide +kernel
theorem dJ6_bitCount_0f7a4_28 : decode cJ6_bitCount_0f7a4 28 = .ok (.iadd, 1) := by decide +kernel
theorem dJ6_bitCount_0f7a4_29 : decode cJ6_bitCount_0f7a4 29 = .ok (.ldc_w 267, 3) := by decide +kernel
theorem dJ6_bitCount_0f7a4_32 : decode cJ6_bitCount_0f7a4 32 = .ok (.iand, 1) := by decide +kernel
theorem dJ6_bitCount_0f7a4_33 : decode cJ6_bitCount_0f7a4 33 = .ok (.istore_n 0, 1) := by decide +kernel
theorem dJ6_bitCount_0f7a4_34 : decode cJ6_bitCount_0f7a4 34 = .ok (.iload_n 0, 1) := by decide +kernel
theorem dJ6_bitCount_0f7a4_35 : decode cJ6_bitCount_0f7a4 35 = .ok (.iload_n 0, 1) := by decide +kernel
theorem dJ6_bitCount_0f7a4_36 : decode cJ6_bitCount_0f7a4 36 = .ok (.bipush 8, 2) := by decide +kernel
theorem dJ6_bitCount_0f7a4_38 : decode cJ6_bitCount_0f7a4 38 = .ok (.iushr, 1) := by decide +kernel
theorem dJ6_bitCount_0f7a4_39 : decode cJ6_bitCount_0f7a4 39 = .ok (.iadd, 1) := by decide +kernel
theorem dJ6_bitCount_0f7a4_40 : decode cJ6_bitCount_0f7a4 40 = .ok (.istore_n 0, 1) := by decide +kernel
theorem dJ6_bitCount_0f7a4_41 : decode cJ6_bitCount_0f7a4 41 = .ok (.iload_n 0, 1) := by decide +kernel
theorem dJ6_bitCount_0f7a4_42 : decode cJ6_bitCount_0f7a4 42 = .ok (.iload_n 0, 1) := by decide +kernel
theorem dJ6_bitCount_0f7a4_43 : decode cJ6_bitCount_0f7a4 43 = .ok (.bipush 16, 2) := by decide +kernel
theorem dJ6_bitCount_0f7a4_45 : decode cJ6_bitCount_0f7a4 45 = .ok (.iushr, 1) := by decide +kernel
theorem dJ6_bitCount_0f7a4_46 : decode cJ6_bitCount_0f7a4 46 = .ok (.iadd, 1) := by decide +kernel
theorem dJ6_bitCount_0f7a4_47 : decode cJ6_bitCount_0f7a4 47 = .ok (.istore_n 0, 1) := by decide +kernel
theorem dJ6_bitCount_0f7a4_48 : decode cJ6_bitCount_0f7a4 48 = .ok (.iload_n 0, 1) := by decide +kernel
theorem dJ6_bitCount_0f7a4_49 : decode cJ6_bitCount_0f7a4 49 = .ok (.bipush 63, 2) := by decide +kernel
theorem dJ6_bitCount_0f7a4_51 : decode cJ6_bitCount_0f7a4 51 = .ok (.iand, 1) := by decide +kernel
theorem dJ6_bitCount_0f7a4_52 : decode cJ6_bitCount_0f7a4 52 = .ok (.ireturn, 1) := by decide +kernel
theorem dJ7_fill_53178_0 : decode cJ7_fill_53178 0 = .ok (.iconst 0, 1) := by decide +kernel
theorem dJ7_fill_53178_1 : decode cJ7_fill_53178 1 = .ok (.istore_n 2, 1) := by decide +kernel
theorem dJ7_fill_53178_2 : decode cJ7_fill_53178 2 = .ok (.aload_n 0, 1) := by decide +kernel
theorem dJ7_fill_53178_3 : decode cJ7_fill_53178 3 = .ok (.arraylength, 1) := by decide +kernel
theorem dJ7_fill_53178_4 : decode cJ7_fill_53178 4 = .ok (.istore_n 3, 1) := by decide +kernel
theorem dJ7_fill_53178_5 : decode cJ7_fill_53178 5 = .ok (.iload_n 2, 1) := by decide +kernel
theorem dJ7_fill_53178_6 : decode cJ7_fill_53178 6 = .ok (.iload_n 3, 1) := by decide +kernel
theorem dJ7_fill_53178_7 : decode cJ7_fill_53178 7 = .ok (.if_icmp .ge 13, 3) := by decide +kernel
theorem dJ7_fill_53178_10 : decode cJ7_fill_53178 10 = .ok (.aload_n 0, 1) := by decide +kernel
theorem dJ7_fill_53178_11 : decode cJ7_fill_53178 11 = .ok (.iload_n 2, 1) := by decide +kernel
theorem dJ7_fill_53178_12 : decode cJ7_fill_53178 12 = .ok (.iload_n 1, 1) := by decide +kernel
theorem dJ7_fill_53178_13 : decode cJ7_fill_53178 13 = .ok (.iastore, 1) := by decide +kernel
theorem dJ7_fill_53178_14 : decode cJ7_fill_53178 14 = .ok (.iinc 2 1, 3) := by decide +kernel
theorem dJ7_fill_53178_17 : decode cJ7_fill_53178 17 = .ok (.goto (-12), 3) := by decide +kernel
theorem dJ7_fill_53178_20 : decode cJ7_fill_53178 20 = .ok (.return_, 1) := by decide +kernel
theorem dJ9_min_7cf53_0 : decode cJ9_min_7cf53 0 = .ok (.iload_n 0, 1) := by decide +kernel
theorem dJ9_min_7cf53_1 : decode cJ9_min_7cf53 1 = .ok (.iload_n 1, 1) := by decide +kernel
theorem dJ9_min_7cf53_2 : decode cJ9_min_7cf53 2 = .ok (.if_icmp .gt 7, 3) := by decide +kernel
theorem dJ9_min_7cf53_5 : decode cJ9_min_7cf53 5 = .ok (.iload_n 0, 1) := by decide +kernel
theorem dJ9_min_7cf53_6 : decode cJ9_min_7cf53 6 = .ok (.goto 4, 3) := by decide +kernel
theorem dJ9_min_7cf53_9 : decode cJ9_min_7cf53 9 = .ok (.iload_n 1, 1) := by decide +kernel
theorem dJ9_min_7cf53_10 : decode cJ9_min_7cf53 10 = .ok (.ireturn, 1) := by decide +kernel
