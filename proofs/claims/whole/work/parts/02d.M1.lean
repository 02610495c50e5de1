theorem dM_init_0 : decode cM_init 0 = .ok (.aload_n 0, 1) := by decide +kernel
theorem dM_init_1 : decode cM_init 1 = .ok (.invokespecial 1, 3) := by decide +kernel
theorem dM_init_4 : decode cM_init 4 = .ok (.aload_n 0, 1) := by decide +kernel
theorem dM_init_5 : decode cM_init 5 = .ok (.sipush 280, 3) := by decide +kernel
theorem dM_init_8 : decode cM_init 8 = .ok (.newarray .int, 2) := by decide +kernel
theorem dM_init_10 : decode cM_init 10 = .ok (.putfield 7, 3) := by decide +kernel
theorem dM_init_13 : decode cM_init 13 = .ok (.aload_n 0, 1) := by decide +kernel
theorem dM_init_14 : decode cM_init 14 = .ok (.bipush 40, 2) := by decide +kernel
theorem dM_init_16 : decode cM_init 16 = .ok (.newarray .int, 2) := by decide +kernel
theorem dM_init_18 : decode cM_init 18 = .ok (.putfield 13, 3) := by decide +kernel
theorem dM_init_21 : decode cM_init 21 = .ok (.aload_n 0, 1) := by decide +kernel
theorem dM_init_22 : decode cM_init 22 = .ok (.bipush 40, 2) := by decide +kernel
theorem dM_init_24 : decode cM_init 24 = .ok (.newarray .int, 2) := by decide +kernel
theorem dM_init_26 : decode cM_init 26 = .ok (.putfield 16, 3) := by decide +kernel
theorem dM_init_29 : decode cM_init 29 = .ok (.aload_n 0, 1) := by decide +kernel
theorem dM_init_30 : decode cM_init 30 = .ok (.bipush 40, 2) := by decide +kernel
theorem dM_init_32 : decode cM_init 32 = .ok (.newarray .boolean, 2) := by decide +kernel
theorem dM_init_34 : decode cM_init 34 = .ok (.putfield 19, 3) := by decide +kernel
theorem dM_init_37 : decode cM_init 37 = .ok (.aload_n 0, 1) := by decide +kernel
theorem dM_init_38 : decode cM_init 38 = .ok (.bipush 40, 2) := by decide +kernel
theorem dM_init_40 : decode cM_init 40 = .ok (.newarray .int, 2) := by decide +kernel
theorem dM_init_42 : decode cM_init 42 = .ok (.putfield 23, 3) := by decide +kernel
theorem dM_init_45 : decode cM_init 45 = .ok (.aload_n 0, 1) := by decide +kernel
theorem dM_init_46 : decode cM_init 46 = .ok (.bipush 40, 2) := by decide +kernel
theorem dM_init_48 : decode cM_init 48 = .ok (.newarray .int, 2) := by decide +kernel
theorem dM_init_50 : decode cM_init 50 = .ok (.putfield 26, 3) := by decide +kernel
theorem dM_init_53 : decode cM_init 53 = .ok (.aload_n 0, 1) := by decide +kernel
theorem dM_init_54 : decode cM_init 54 = .ok (.iconst 4, 1) := by decide +kernel
theorem dM_init_55 : decode cM_init 55 = .ok (.newarray .int, 2) := by decide +kernel
theorem dM_init_57 : decode cM_init 57 = .ok (.putfield 29, 3) := by decide +kernel
theorem dM_init_60 : decode cM_init 60 = .ok (.aload_n 0, 1) := by decide +kernel
theorem dM_init_61 : decode cM_init 61 = .ok (.sipush 160, 3) := by decide +kernel
theorem dM_init_64 : decode cM_init 64 = .ok (.newarray .int, 2) := by decide +kernel
theorem dM_init_66 : decode cM_init 66 = .ok (.putfield 32, 3) := by decide +kernel
theorem dM_init_69 : decode cM_init 69 = .ok (.aload_n 0, 1) := by decide +kernel
theorem dM_init_70 : decode cM_init 70 = .ok (.sipush 170, 3) := by decide +kernel
theorem dM_init_73 : decode cM_init 73 = .ok (.newarray .int, 2) := by decide +kernel
theorem dM_init_75 : decode cM_init 75 = .ok (.putfield 35, 3) := by decide +kernel
theorem dM_init_78 : decode cM_init 78 = .ok (.aload_n 0, 1) := by decide +kernel
theorem dM_init_79 : decode cM_init 79 = .ok (.sipush 170, 3) := by decide +kernel
theorem dM_init_82 : decode cM_init 82 = .ok (.newarray .int, 2) := by decide +kernel
theorem dM_init_84 : decode cM_init 84 = .ok (.putfield 38, 3) := by decide +kernel
theorem dM_init_87 : decode cM_init 87 = .ok (.aload_n 0, 1) := by decide +kernel
theorem dM_init_88 : decode cM_init 88 = .ok (.bipush 12, 2) := by decide +kernel
theorem dM_init_90 : decode cM_init 90 = .ok (.newarray .int, 2) := by decide +kernel
theorem dM_init_92 : decode cM_init 92 = .ok (.putfield 41, 3) := by decide +kernel
theorem dM_init_95 : decode cM_init 95 = .ok (.aload_n 0, 1) := by decide +kernel
theorem dM_init_96 : decode cM_init 96 = .ok (.sipush 520, 3) := by decide +kernel
theorem dM_init_99 : decode cM_init 99 = .ok (.newarray .int, 2) := by decide +kernel
theorem dM_init_101 : decode cM_init 101 = .ok (.putfield 44, 3) := by decide +kernel
theorem dM_init_104 : decode cM_init 104 = .ok (.aload_n 0, 1) := by decide +kernel
theorem dM_init_105 : decode cM_init 105 = .ok (.sipush 520, 3) := by decide +kernel
theorem dM_init_108 : decode cM_init 108 = .ok (.newarray .int, 2) := by decide +kernel
theorem dM_init_110 : decode cM_init 110 = .ok (.putfield 47, 3) := by decide +kernel
theorem dM_init_113 : decode cM_init 113 = .ok (.aload_n 0, 1) := by decide +kernel
theorem dM_init_114 : decode cM_init 114 = .ok (.bipush 40, 2) := by decide +kernel
theorem dM_init_116 : decode cM_init 116 = .ok (.newarray .int, 2) := by decide +kernel
theorem dM_init_118 : decode cM_init 118 = .ok (.putfield 50, 3) := by decide +kernel
theorem dM_init_121 : decode cM_init 121 = .ok (.aload_n 0, 1) := by decide +kernel
theorem dM_init_122 : decode cM_init 122 = .ok (.bipush 40, 2) := by decide +kernel
theorem dM_init_124 : decode cM_init 124 = .ok (.newarray .boolean, 2) := by decide +kernel
theorem dM_init_126 : decode cM_init 126 = .ok (.putfield 53, 3) := by decide +kernel
theorem dM_init_129 : decode cM_init 129 = .ok (.aload_n 0, 1) := by decide +kernel
theorem dM_init_130 : decode cM_init 130 = .ok (.bipush 42, 2) := by decide +kernel
theorem dM_init_132 : decode cM_init 132 = .ok (.newarray .int, 2) := by decide +kernel
theorem dM_init_134 : decode cM_init 134 = .ok (.putfield 56, 3) := by decide +kernel
theorem dM_init_137 : decode cM_init 137 = .ok (.aload_n 0, 1) := by decide +kernel
theorem dM_init_138 : decode cM_init 138 = .ok (.bipush 40, 2) := by decide +kernel
theorem dM_init_140 : decode cM_init 140 = .ok (.newarray .int, 2) := by decide +kernel
theorem dM_init_142 : decode cM_init 142 = .ok (.putfield 59, 3) := by decide +kernel
theorem dM_init_145 : decode cM_init 145 = .ok (.aload_n 0, 1) := by decide +kernel
theorem dM_init_146 : decode cM_init 146 = .ok (.bipush 40, 2) := by decide +kernel
theorem dM_init_148 : decode cM_init 148 = .ok (.newarray .int, 2) := by decide +kernel
theorem dM_init_150 : decode cM_init 150 = .ok (.putfield 62, 3) := by decide +kernel
theorem dM_init_153 : decode cM_init 153 = .ok (.iconst 0, 1) := by decide +kernel
theorem dM_init_154 : decode cM_init 154 = .ok (.istore_n 1, 1) := by decide +kernel
theorem dM_init_155 : decode cM_init 155 = .ok (.iload_n 1, 1) := by decide +kernel
theorem dM_init_156 : decode cM_init 156 = .ok (.bipush 40, 2) := by decide +kernel
theorem dM_init_158 : decode cM_init 158 = .ok (.if_icmp .ge 23, 3) := by decide +kernel
theorem dM_init_161 : decode cM_init 161 = .ok (.aload_n 0, 1) := by decide +kernel
theorem dM_init_162 : decode cM_init 162 = .ok (.getfield 13, 3) := by decide +kernel
theorem dM_init_165 : decode cM_init 165 = .ok (.iload_n 1, 1) := by decide +kernel
theorem dM_init_166 : decode cM_init 166 = .ok (.iconst (-1), 1) := by decide +kernel
theorem dM_init_167 : decode cM_init 167 = .ok (.iastore, 1) := by decide +kernel
theorem dM_init_168 : decode cM_init 168 = .ok (.aload_n 0, 1) := by decide +kernel
theorem dM_init_169 : decode cM_init 169 = .ok (.getfield 16, 3) := by decide +kernel
theorem dM_init_172 : decode cM_init 172 = .ok (.iload_n 1, 1) := by decide +kernel
theorem dM_init_173 : decode cM_init 173 = .ok (.iconst (-1), 1) := by decide +kernel
theorem dM_init_174 : decode cM_init 174 = .ok (.iastore, 1) := by decide +kernel
theorem dM_init_175 : decode cM_init 175 = .ok (.iinc 1 1, 3) := by decide +kernel
theorem dM_init_178 : decode cM_init 178 = .ok (.goto (-23), 3) := by decide +kernel
theorem dM_init_181 : decode cM_init 181 = .ok (.return_, 1) := by decide +kernel
theorem dM_thrown_0 : decode cM_thrown 0 = .ok (.aload_n 0, 1) := by decide +kernel
theorem dM_thrown_1 : decode cM_thrown 1 = .ok (.getfield 65, 3) := by decide +kernel
theorem dM_thrown_4 : decode cM_thrown 4 = .ok (.ireturn, 1) := by decide +kernel
theorem dM_set_0 : decode cM_set 0 = .ok (.iload_n 2, 1) := by decide +kernel
theorem dM_set_1 : decode cM_set 1 = .ok (.ifCond .ne 9, 3) := by decide +kernel
theorem dM_set_4 : decode cM_set 4 = .ok (.sipush 254, 3) := by decide +kernel
theorem dM_set_7 : decode cM_set 7 = .ok (.goto 36, 3) := by decide +kernel
theorem dM_set_10 : decode cM_set 10 = .ok (.iload_n 2, 1) := by decide +kernel
theorem dM_set_11 : decode cM_set 11 = .ok (.iconst 1, 1) := by decide +kernel
theorem dM_set_12 : decode cM_set 12 = .ok (.if_icmp .ne 8, 3) := by decide +kernel
theorem dM_set_15 : decode cM_set 15 = .ok (.bipush 9, 2) := by decide +kernel
theorem dM_set_17 : decode cM_set 17 = .ok (.goto 26, 3) := by decide +kernel
theorem dM_set_20 : decode cM_set 20 = .ok (.iload_n 2, 1) := by decide +kernel
theorem dM_set_21 : decode cM_set 21 = .ok (.iconst 2, 1) := by decide +kernel
theorem dM_set_22 : decode cM_set 22 = .ok (.if_icmp .ne 8, 3) := by decide +kernel
theorem dM_set_25 : decode cM_set 25 = .ok (.bipush 12, 2) := by decide +kernel
theorem dM_set_27 : decode cM_set 27 = .ok (.goto 16, 3) := by decide +kernel
theorem dM_set_30 : decode cM_set 30 = .ok (.iload_n 2, 1) := by decide +kernel
theorem dM_set_31 : decode cM_set 31 = .ok (.iconst 3, 1) := by decide +kernel
theorem dM_set_32 : decode cM_set 32 = .ok (.if_icmp .ne 8, 3) := by decide +kernel
theorem dM_set_35 : decode cM_set 35 = .ok (.bipush 11, 2) := by decide +kernel
theorem dM_set_37 : decode cM_set 37 = .ok (.goto 6, 3) := by decide +kernel
theorem dM_set_40 : decode cM_set 40 = .ok (.sipush 999, 3) := by decide +kernel
theorem dM_set_43 : decode cM_set 43 = .ok (.istore 4, 2) := by decide +kernel
theorem dM_set_45 : decode cM_set 45 = .ok (.aload_n 0, 1) := by decide +kernel
theorem dM_set_46 : decode cM_set 46 = .ok (.iload_n 1, 1) := by decide +kernel
theorem dM_set_47 : decode cM_set 47 = .ok (.ifCond .lt 29, 3) := by decide +kernel
theorem dM_set_50 : decode cM_set 50 = .ok (.iload_n 1, 1) := by decide +kernel
theorem dM_set_51 : decode cM_set 51 = .ok (.bipush 39, 2) := by decide +kernel
theorem dM_set_53 : decode cM_set 53 = .ok (.if_icmp .gt 23, 3) := by decide +kernel
theorem dM_set_56 : decode cM_set 56 = .ok (.iload_n 2, 1) := by decide +kernel
theorem dM_set_57 : decode cM_set 57 = .ok (.ifCond .lt 19, 3) := by decide +kernel
theorem dM_set_60 : decode cM_set 60 = .ok (.iload_n 2, 1) := by decide +kernel
theorem dM_set_61 : decode cM_set 61 = .ok (.bipush 6, 2) := by decide +kernel
theorem dM_set_63 : decode cM_set 63 = .ok (.if_icmp .gt 13, 3) := by decide +kernel
theorem dM_set_66 : decode cM_set 66 = .ok (.iload_n 3, 1) := by decide +kernel
theorem dM_set_67 : decode cM_set 67 = .ok (.ifCond .lt 9, 3) := by decide +kernel
theorem dM_set_70 : decode cM_set 70 = .ok (.iload_n 3, 1) := by decide +kernel
theorem dM_set_71 : decode cM_set 71 = .ok (.iload 4, 2) := by decide +kernel
theorem dM_set_73 : decode cM_set 73 = .ok (.if_icmp .le 7, 3) := by decide +kernel
theorem dM_set_76 : decode cM_set 76 = .ok (.iconst 1, 1) := by decide +kernel
theorem dM_set_77 : decode cM_set 77 = .ok (.goto 4, 3) := by decide +kernel
theorem dM_set_80 : decode cM_set 80 = .ok (.iconst 0, 1) := by decide +kernel
theorem dM_set_81 : decode cM_set 81 = .ok (.putfield 65, 3) := by decide +kernel
theorem dM_set_84 : decode cM_set 84 = .ok (.aload_n 0, 1) := by decide +kernel
theorem dM_set_85 : decode cM_set 85 = .ok (.getfield 65, 3) := by decide +kernel
theorem dM_set_88 : decode cM_set 88 = .ok (.ifCond .ne 15, 3) := by decide +kernel
theorem dM_set_91 : decode cM_set 91 = .ok (.aload_n 0, 1) := by decide +kernel
theorem dM_set_92 : decode cM_set 92 = .ok (.getfield 7, 3) := by decide +kernel
theorem dM_set_95 : decode cM_set 95 = .ok (.bipush 40, 2) := by decide +kernel
theorem dM_set_97 : decode cM_set 97 = .ok (.iload_n 2, 1) := by decide +kernel
theorem dM_set_98 : decode cM_set 98 = .ok (.imul, 1) := by decide +kernel
theorem dM_set_99 : decode cM_set 99 = .ok (.iload_n 1, 1) := by decide +kernel
theorem dM_set_100 : decode cM_set 100 = .ok (.iadd, 1) := by decide +kernel
theorem dM_set_101 : decode cM_set 101 = .ok (.iload_n 3, 1) := by decide +kernel
theorem dM_set_102 : decode cM_set 102 = .ok (.iastore, 1) := by decide +kernel
theorem dM_set_103 : decode cM_set 103 = .ok (.return_, 1) := by decide +kernel
theorem dM_isShort_0 : decode cM_isShort 0 = .ok (.iconst 1, 1) := by decide +kernel
theorem dM_isShort_1 : decode cM_isShort 1 = .ok (.istore_n 1, 1) := by decide +kernel
theorem dM_isShort_2 : decode cM_isShort 2 = .ok (.iconst 0, 1) := by decide +kernel
theorem dM_isShort_3 : decode cM_isShort 3 = .ok (.istore_n 2, 1) := by decide +kernel
theorem dM_isShort_4 : decode cM_isShort 4 = .ok (.iload_n 2, 1) := by decide +kernel
theorem dM_isShort_5 : decode cM_isShort 5 = .ok (.bipush 40, 2) := by decide +kernel
theorem dM_isShort_7 : decode cM_isShort 7 = .ok (.if_icmp .ge 110, 3) := by decide +kernel
theorem dM_isShort_10 : decode cM_isShort 10 = .ok (.aload_n 0, 1) := by decide +kernel
theorem dM_isShort_11 : decode cM_isShort 11 = .ok (.getfield 23, 3) := by decide +kernel
theorem dM_isShort_14 : decode cM_isShort 14 = .ok (.iload_n 2, 1) := by decide +kernel
theorem dM_isShort_15 : decode cM_isShort 15 = .ok (.aload_n 0, 1) := by decide +kernel
theorem dM_isShort_16 : decode cM_isShort 16 = .ok (.getfield 13, 3) := by decide +kernel
theorem dM_isShort_19 : decode cM_isShort 19 = .ok (.iload_n 2, 1) := by decide +kernel
theorem dM_isShort_20 : decode cM_isShort 20 = .ok (.iaload, 1) := by decide +kernel
theorem dM_isShort_21 : decode cM_isShort 21 = .ok (.ifCond .ge 7, 3) := by decide +kernel
theorem dM_isShort_24 : decode cM_isShort 24 = .ok (.iconst 1, 1) := by decide +kernel
theorem dM_isShort_25 : decode cM_isShort 25 = .ok (.goto 39, 3) := by decide +kernel
theorem dM_isShort_28 : decode cM_isShort 28 = .ok (.aload_n 0, 1) := by decide +kernel
theorem dM_isShort_29 : decode cM_isShort 29 = .ok (.getfield 23, 3) := by decide +kernel
theorem dM_isShort_32 : decode cM_isShort 32 = .ok (.aload_n 0, 1) := by decide +kernel
theorem dM_isShort_33 : decode cM_isShort 33 = .ok (.getfield 13, 3) := by decide +kernel
theorem dM_isShort_36 : decode cM_isShort 36 = .ok (.iload_n 2, 1) := by decide +kernel
theorem dM_isShort_37 : decode cM_isShort 37 = .ok (.iaload, 1) := by decide +kernel
theorem dM_isShort_38 : decode cM_isShort 38 = .ok (.iaload, 1) := by decide +kernel
theorem dM_isShort_39 : decode cM_isShort 39 = .ok (.aload_n 0, 1) := by decide +kernel
theorem dM_isShort_40 : decode cM_isShort 40 = .ok (.getfield 16, 3) := by decide +kernel
theorem dM_isShort_43 : decode cM_isShort 43 = .ok (.iload_n 2, 1) := by decide +kernel
theorem dM_isShort_44 : decode cM_isShort 44 = .ok (.iaload, 1) := by decide +kernel
theorem dM_isShort_45 : decode cM_isShort 45 = .ok (.ifCond .ge 7, 3) := by decide +kernel
theorem dM_isShort_48 : decode cM_isShort 48 = .ok (.iconst 0, 1) := by decide +kernel
theorem dM_isShort_49 : decode cM_isShort 49 = .ok (.goto 14, 3) := by decide +kernel
theorem dM_isShort_52 : decode cM_isShort 52 = .ok (.aload_n 0, 1) := by decide +kernel
theorem dM_isShort_53 : decode cM_isShort 53 = .ok (.getfield 23, 3) := by decide +kernel
theorem dM_isShort_56 : decode cM_isShort 56 = .ok (.aload_n 0, 1) := by decide +kernel
theorem dM_isShort_57 : decode cM_isShort 57 = .ok (.getfield 16, 3) := by decide +kernel
theorem dM_isShort_60 : decode cM_isShort 60 = .ok (.iload_n 2, 1) := by decide +kernel
theorem dM_isShort_61 : decode cM_isShort 61 = .ok (.iaload, 1) := by decide +kernel
theorem dM_isShort_62 : decode cM_isShort 62 = .ok (.iaload, 1) := by decide +kernel
theorem dM_isShort_63 : decode cM_isShort 63 = .ok (.iadd, 1) := by decide +kernel
theorem dM_isShort_64 : decode cM_isShort 64 = .ok (.iastore, 1) := by decide +kernel
theorem dM_isShort_65 : decode cM_isShort 65 = .ok (.aload_n 0, 1) := by decide +kernel
theorem dM_isShort_66 : decode cM_isShort 66 = .ok (.getfield 23, 3) := by decide +kernel
theorem dM_isShort_69 : decode cM_isShort 69 = .ok (.iload_n 2, 1) := by decide +kernel
theorem dM_isShort_70 : decode cM_isShort 70 = .ok (.aload_n 0, 1) := by decide +kernel
theorem dM_isShort_71 : decode cM_isShort 71 = .ok (.getfield 23, 3) := by decide +kernel
theorem dM_isShort_74 : decode cM_isShort 74 = .ok (.iload_n 2, 1) := by decide +kernel
theorem dM_isShort_75 : decode cM_isShort 75 = .ok (.iaload, 1) := by decide +kernel
theorem dM_isShort_76 : decode cM_isShort 76 = .ok (.iconst 5, 1) := by decide +kernel
theorem dM_isShort_77 : decode cM_isShort 77 = .ok (.if_icmp .le 7, 3) := by decide +kernel
theorem dM_isShort_80 : decode cM_isShort 80 = .ok (.iconst 5, 1) := by decide +kernel
theorem dM_isShort_81 : decode cM_isShort 81 = .ok (.goto 9, 3) := by decide +kernel
theorem dM_isShort_84 : decode cM_isShort 84 = .ok (.aload_n 0, 1) := by decide +kernel
theorem dM_isShort_85 : decode cM_isShort 85 = .ok (.getfield 23, 3) := by decide +kernel
theorem dM_isShort_88 : decode cM_isShort 88 = .ok (.iload_n 2, 1) := by decide +kernel
theorem dM_isShort_89 : decode cM_isShort 89 = .ok (.iaload, 1) := by decide +kernel
theorem dM_isShort_90 : decode cM_isShort 90 = .ok (.iastore, 1) := by decide +kernel
theorem dM_isShort_91 : decode cM_isShort 91 = .ok (.iload_n 1, 1) := by decide +kernel
theorem dM_isShort_92 : decode cM_isShort 92 = .ok (.ifCond .eq 17, 3) := by decide +kernel
theorem dM_isShort_95 : decode cM_isShort 95 = .ok (.aload_n 0, 1) := by decide +kernel
theorem dM_isShort_96 : decode cM_isShort 96 = .ok (.getfield 23, 3) := by decide +kernel
theorem dM_isShort_99 : decode cM_isShort 99 = .ok (.iload_n 2, 1) := by decide +kernel
theorem dM_isShort_100 : decode cM_isShort 100 = .ok (.iaload, 1) := by decide +kernel
theorem dM_isShort_101 : decode cM_isShort 101 = .ok (.iconst 4, 1) := by decide +kernel
theorem dM_isShort_102 : decode cM_isShort 102 = .ok (.if_icmp .gt 7, 3) := by decide +kernel
theorem dM_isShort_105 : decode cM_isShort 105 = .ok (.iconst 1, 1) := by decide +kernel
theorem dM_isShort_106 : decode cM_isShort 106 = .ok (.goto 4, 3) := by decide +kernel
theorem dM_isShort_109 : decode cM_isShort 109 = .ok (.iconst 0, 1) := by decide +kernel
theorem dM_isShort_110 : decode cM_isShort 110 = .ok (.istore_n 1, 1) := by decide +kernel
theorem dM_isShort_111 : decode cM_isShort 111 = .ok (.iinc 2 1, 3) := by decide +kernel
theorem dM_isShort_114 : decode cM_isShort 114 = .ok (.goto (-110), 3) := by decide +kernel
theorem dM_isShort_117 : decode cM_isShort 117 = .ok (.iload_n 1, 1) := by decide +kernel
theorem dM_isShort_118 : decode cM_isShort 118 = .ok (.ireturn, 1) := by decide +kernel
theorem dM_part_0 : decode cM_part 0 = .ok (.aload_n 0, 1) := by decide +kernel
theorem dM_part_1 : decode cM_part 1 = .ok (.iload_n 1, 1) := by decide +kernel
theorem dM_part_2 : decode cM_part 2 = .ok (.ifCond .lt 37, 3) := by decide +kernel
theorem dM_part_5 : decode cM_part 5 = .ok (.iload_n 1, 1) := by decide +kernel
theorem dM_part_6 : decode cM_part 6 = .ok (.bipush 39, 2) := by decide +kernel
theorem dM_part_8 : decode cM_part 8 = .ok (.if_icmp .gt 31, 3) := by decide +kernel
theorem dM_part_11 : decode cM_part 11 = .ok (.iload_n 2, 1) := by decide +kernel
theorem dM_part_12 : decode cM_part 12 = .ok (.iconst (-1), 1) := by decide +kernel
theorem dM_part_13 : decode cM_part 13 = .ok (.if_icmp .lt 26, 3) := by decide +kernel
theorem dM_part_16 : decode cM_part 16 = .ok (.iload_n 2, 1) := by decide +kernel
theorem dM_part_17 : decode cM_part 17 = .ok (.iload_n 1, 1) := by decide +kernel
theorem dM_part_18 : decode cM_part 18 = .ok (.if_icmp .ge 21, 3) := by decide +kernel
theorem dM_part_21 : decode cM_part 21 = .ok (.iload_n 3, 1) := by decide +kernel
theorem dM_part_22 : decode cM_part 22 = .ok (.iconst (-1), 1) := by decide +kernel
theorem dM_part_23 : decode cM_part 23 = .ok (.if_icmp .lt 16, 3) := by decide +kernel
theorem dM_part_26 : decode cM_part 26 = .ok (.iload_n 3, 1) := by decide +kernel
theorem dM_part_27 : decode cM_part 27 = .ok (.iload_n 1, 1) := by decide +kernel
theorem dM_part_28 : decode cM_part 28 = .ok (.if_icmp .ge 11, 3) := by decide +kernel
theorem dM_part_31 : decode cM_part 31 = .ok (.iload_n 2, 1) := by decide +kernel
theorem dM_part_32 : decode cM_part 32 = .ok (.ifCond .ge 11, 3) := by decide +kernel
theorem dM_part_35 : decode cM_part 35 = .ok (.iload_n 3, 1) := by decide +kernel
theorem dM_part_36 : decode cM_part 36 = .ok (.ifCond .lt 7, 3) := by decide +kernel
theorem dM_part_39 : decode cM_part 39 = .ok (.iconst 1, 1) := by decide +kernel
theorem dM_part_40 : decode cM_part 40 = .ok (.goto 4, 3) := by decide +kernel
theorem dM_part_43 : decode cM_part 43 = .ok (.iconst 0, 1) := by decide +kernel
theorem dM_part_44 : decode cM_part 44 = .ok (.putfield 65, 3) := by decide +kernel
theorem dM_part_47 : decode cM_part 47 = .ok (.aload_n 0, 1) := by decide +kernel
theorem dM_part_48 : decode cM_part 48 = .ok (.getfield 65, 3) := by decide +kernel
theorem dM_part_51 : decode cM_part 51 = .ok (.ifCond .eq 4, 3) := by decide +kernel
theorem dM_part_54 : decode cM_part 54 = .ok (.return_, 1) := by decide +kernel
theorem dM_part_55 : decode cM_part 55 = .ok (.aload_n 0, 1) := by decide +kernel
theorem dM_part_56 : decode cM_part 56 = .ok (.getfield 13, 3) := by decide +kernel
theorem dM_part_59 : decode cM_part 59 = .ok (.iload_n 1, 1) := by decide +kernel
theorem dM_part_60 : decode cM_part 60 = .ok (.iaload, 1) := by decide +kernel
theorem dM_part_61 : decode cM_part 61 = .ok (.istore 5, 2) := by decide +kernel
theorem dM_part_63 : decode cM_part 63 = .ok (.aload_n 0, 1) := by decide +kernel
theorem dM_part_64 : decode cM_part 64 = .ok (.getfield 16, 3) := by decide +kernel
theorem dM_part_67 : decode cM_part 67 = .ok (.iload_n 1, 1) := by decide +kernel
theorem dM_part_68 : decode cM_part 68 = .ok (.iaload, 1) := by decide +kernel
theorem dM_part_69 : decode cM_part 69 = .ok (.istore 6, 2) := by decide +kernel
theorem dM_part_71 : decode cM_part 71 = .ok (.aload_n 0, 1) := by decide +kernel
theorem dM_part_72 : decode cM_part 72 = .ok (.getfield 13, 3) := by decide +kernel
theorem dM_part_75 : decode cM_part 75 = .ok (.iload_n 1, 1) := by decide +kernel
theorem dM_part_76 : decode cM_part 76 = .ok (.iload_n 2, 1) := by decide +kernel
theorem dM_part_77 : decode cM_part 77 = .ok (.iastore, 1) := by decide +kernel
theorem dM_part_78 : decode cM_part 78 = .ok (.aload_n 0, 1) := by decide +kernel
theorem dM_part_79 : decode cM_part 79 = .ok (.getfield 16, 3) := by decide +kernel
theorem dM_part_82 : decode cM_part 82 = .ok (.iload_n 1, 1) := by decide +kernel
theorem dM_part_83 : decode cM_part 83 = .ok (.iload_n 3, 1) := by decide +kernel
theorem dM_part_84 : decode cM_part 84 = .ok (.iastore, 1) := by decide +kernel
theorem dM_part_85 : decode cM_part 85 = .ok (.aload_n 0, 1) := by decide +kernel
theorem dM_part_86 : decode cM_part 86 = .ok (.invokevirtual 69, 3) := by decide +kernel
theorem dM_part_89 : decode cM_part 89 = .ok (.ifCond .ne 25, 3) := by decide +kernel
theorem dM_part_92 : decode cM_part 92 = .ok (.aload_n 0, 1) := by decide +kernel
theorem dM_part_93 : decode cM_part 93 = .ok (.getfield 13, 3) := by decide +kernel
theorem dM_part_96 : decode cM_part 96 = .ok (.iload_n 1, 1) := by decide +kernel
theorem dM_part_97 : decode cM_part 97 = .ok (.iload 5, 2) := by decide +kernel
theorem dM_part_99 : decode cM_part 99 = .ok (.iastore, 1) := by decide +kernel
theorem dM_part_100 : decode cM_part 100 = .ok (.aload_n 0, 1) := by decide +kernel
theorem dM_part_101 : decode cM_part 101 = .ok (.getfield 16, 3) := by decide +kernel
theorem dM_part_104 : decode cM_part 104 = .ok (.iload_n 1, 1) := by decide +kernel
theorem dM_part_105 : decode cM_part 105 = .ok (.iload 6, 2) := by decide +kernel
theorem dM_part_107 : decode cM_part 107 = .ok (.iastore, 1) := by decide +kernel
theorem dM_part_108 : decode cM_part 108 = .ok (.aload_n 0, 1) := by decide +kernel
theorem dM_part_109 : decode cM_part 109 = .ok (.iconst 2, 1) := by decide +kernel
theorem dM_part_110 : decode cM_part 110 = .ok (.putfield 65, 3) := by decide +kernel
theorem dM_part_113 : decode cM_part 113 = .ok (.return_, 1) := by decide +kernel
theorem dM_part_114 : decode cM_part 114 = .ok (.aload_n 0, 1) := by decide +kernel
theorem dM_part_115 : decode cM_part 115 = .ok (.getfield 19, 3) := by decide +kernel
theorem dM_part_118 : decode cM_part 118 = .ok (.iload_n 1, 1) := by decide +kernel
theorem dM_part_119 : decode cM_part 119 = .ok (.iload 4, 2) := by decide +kernel
theorem dM_part_121 : decode cM_part 121 = .ok (.bastore, 1) := by decide +kernel
theorem dM_part_122 : decode cM_part 122 = .ok (.return_, 1) := by decide +kernel
theorem dM_property_0 : decode cM_property 0 = .ok (.aload_n 0, 1) := by decide +kernel
theorem dM_property_1 : decode cM_property 1 = .ok (.getfield 7, 3) := by decide +kernel
theorem dM_property_4 : decode cM_property 4 = .ok (.bipush 40, 2) := by decide +kernel
theorem dM_property_6 : decode cM_property 6 = .ok (.iload_n 2, 1) := by decide +kernel
theorem dM_property_7 : decode cM_property 7 = .ok (.imul, 1) := by decide +kernel
theorem dM_property_8 : decode cM_property 8 = .ok (.iload_n 1, 1) := by decide +kernel
theorem dM_property_9 : decode cM_property 9 = .ok (.iadd, 1) := by decide +kernel
theorem dM_property_10 : decode cM_property 10 = .ok (.iaload, 1) := by decide +kernel
theorem dM_property_11 : decode cM_property 11 = .ok (.ireturn, 1) := by decide +kernel
theorem dM_rank_0 : decode cM_rank 0 = .ok (.iload_n 1, 1) := by decide +kernel
theorem dM_rank_1 : decode cM_rank 1 = .ok (.bipush 40, 2) := by decide +kernel
theorem dM_rank_3 : decode cM_rank 3 = .ok (.if_icmp .ge 12, 3) := by decide +kernel
theorem dM_rank_6 : decode cM_rank 6 = .ok (.aload_n 0, 1) := by decide +kernel
theorem dM_rank_7 : decode cM_rank 7 = .ok (.iload_n 1, 1) := by decide +kernel
theorem dM_rank_8 : decode cM_rank 8 = .ok (.iconst 0, 1) := by decide +kernel
theorem dM_rank_9 : decode cM_rank 9 = .ok (.invokevirtual 73, 3) := by decide +kernel
theorem dM_rank_12 : decode cM_rank 12 = .ok (.goto 4, 3) := by decide +kernel
theorem dM_rank_15 : decode cM_rank 15 = .ok (.iconst 0, 1) := by decide +kernel
theorem dM_rank_16 : decode cM_rank 16 = .ok (.ireturn, 1) := by decide +kernel
theorem dM_weight_0 : decode cM_weight 0 = .ok (.iload_n 1, 1) := by decide +kernel
theorem dM_weight_1 : decode cM_weight 1 = .ok (.bipush 40, 2) := by decide +kernel
theorem dM_weight_3 : decode cM_weight 3 = .ok (.if_icmp .ge 14, 3) := by decide +kernel
theorem dM_weight_6 : decode cM_weight 6 = .ok (.aload_n 0, 1) := by decide +kernel
theorem dM_weight_7 : decode cM_weight 7 = .ok (.iload_n 1, 1) := by decide +kernel
theorem dM_weight_8 : decode cM_weight 8 = .ok (.iconst 4, 1) := by decide +kernel
theorem dM_weight_9 : decode cM_weight 9 = .ok (.iload_n 2, 1) := by decide +kernel
theorem dM_weight_10 : decode cM_weight 10 = .ok (.iadd, 1) := by decide +kernel
theorem dM_weight_11 : decode cM_weight 11 = .ok (.invokevirtual 73, 3) := by decide +kernel
theorem dM_weight_14 : decode cM_weight 14 = .ok (.goto 16, 3) := by decide +kernel
theorem dM_weight_17 : decode cM_weight 17 = .ok (.iload_n 2, 1) := by decide +kernel
theorem dM_weight_18 : decode cM_weight 18 = .ok (.ifCond .ne 11, 3) := by decide +kernel
theorem dM_weight_21 : decode cM_weight 21 = .ok (.sipush 1000, 3) := by decide +kernel
theorem dM_weight_24 : decode cM_weight 24 = .ok (.iload_n 1, 1) := by decide +kernel
theorem dM_weight_25 : decode cM_weight 25 = .ok (.iadd, 1) := by decide +kernel
theorem dM_weight_26 : decode cM_weight 26 = .ok (.goto 4, 3) := by decide +kernel
theorem dM_weight_29 : decode cM_weight 29 = .ok (.iconst 1, 1) := by decide +kernel
theorem dM_weight_30 : decode cM_weight 30 = .ok (.ireturn, 1) := by decide +kernel
theorem dM_clusterOf_0 : decode cM_clusterOf 0 = .ok (.iload_n 1, 1) := by decide +kernel
theorem dM_clusterOf_1 : decode cM_clusterOf 1 = .ok (.bipush 40, 2) := by decide +kernel
theorem dM_clusterOf_3 : decode cM_clusterOf 3 = .ok (.if_icmp .ge 12, 3) := by decide +kernel
theorem dM_clusterOf_6 : decode cM_clusterOf 6 = .ok (.aload_n 0, 1) := by decide +kernel
theorem dM_clusterOf_7 : decode cM_clusterOf 7 = .ok (.iload_n 1, 1) := by decide +kernel
theorem dM_clusterOf_8 : decode cM_clusterOf 8 = .ok (.iconst 1, 1) := by decide +kernel
theorem dM_clusterOf_9 : decode cM_clusterOf 9 = .ok (.invokevirtual 73, 3) := by decide +kernel
theorem dM_clusterOf_12 : decode cM_clusterOf 12 = .ok (.goto 4, 3) := by decide +kernel
theorem dM_clusterOf_15 : decode cM_clusterOf 15 = .ok (.iconst 0, 1) := by decide +kernel
theorem dM_clusterOf_16 : decode cM_clusterOf 16 = .ok (.ireturn, 1) := by decide +kernel
theorem dM_sideOf_0 : decode cM_sideOf 0 = .ok (.iload_n 1, 1) := by decide +kernel
theorem dM_sideOf_1 : decode cM_sideOf 1 = .ok (.bipush 40, 2) := by decide +kernel
theorem dM_sideOf_3 : decode cM_sideOf 3 = .ok (.if_icmp .ge 12, 3) := by decide +kernel
theorem dM_sideOf_6 : decode cM_sideOf 6 = .ok (.aload_n 0, 1) := by decide +kernel
theorem dM_sideOf_7 : decode cM_sideOf 7 = .ok (.iload_n 1, 1) := by decide +kernel
theorem dM_sideOf_8 : decode cM_sideOf 8 = .ok (.iconst 3, 1) := by decide +kernel
theorem dM_sideOf_9 : decode cM_sideOf 9 = .ok (.invokevirtual 73, 3) := by decide +kernel
theorem dM_sideOf_12 : decode cM_sideOf 12 = .ok (.goto 4, 3) := by decide +kernel
theorem dM_sideOf_15 : decode cM_sideOf 15 = .ok (.iconst 0, 1) := by decide +kernel
theorem dM_sideOf_16 : decode cM_sideOf 16 = .ok (.ireturn, 1) := by decide +kernel
theorem dM_isLead_0 : decode cM_isLead 0 = .ok (.iload_n 1, 1) := by decide +kernel
theorem dM_isLead_1 : decode cM_isLead 1 = .ok (.bipush 40, 2) := by decide +kernel
theorem dM_isLead_3 : decode cM_isLead 3 = .ok (.if_icmp .lt 13, 3) := by decide +kernel
theorem dM_isLead_6 : decode cM_isLead 6 = .ok (.iload_n 1, 1) := by decide +kernel
theorem dM_isLead_7 : decode cM_isLead 7 = .ok (.bipush 43, 2) := by decide +kernel
theorem dM_isLead_9 : decode cM_isLead 9 = .ok (.if_icmp .ge 7, 3) := by decide +kernel
theorem dM_isLead_12 : decode cM_isLead 12 = .ok (.iconst 1, 1) := by decide +kernel
theorem dM_isLead_13 : decode cM_isLead 13 = .ok (.goto 4, 3) := by decide +kernel
theorem dM_isLead_16 : decode cM_isLead 16 = .ok (.iconst 0, 1) := by decide +kernel
theorem dM_isLead_17 : decode cM_isLead 17 = .ok (.ireturn, 1) := by decide +kernel
theorem dM_isVowel_0 : decode cM_isVowel 0 = .ok (.iload_n 1, 1) := by decide +kernel
theorem dM_isVowel_1 : decode cM_isVowel 1 = .ok (.bipush 43, 2) := by decide +kernel
theorem dM_isVowel_3 : decode cM_isVowel 3 = .ok (.if_icmp .lt 13, 3) := by decide +kernel
theorem dM_isVowel_6 : decode cM_isVowel 6 = .ok (.iload_n 1, 1) := by decide +kernel
theorem dM_isVowel_7 : decode cM_isVowel 7 = .ok (.bipush 46, 2) := by decide +kernel
theorem dM_isVowel_9 : decode cM_isVowel 9 = .ok (.if_icmp .ge 7, 3) := by decide +kernel
theorem dM_isVowel_12 : decode cM_isVowel 12 = .ok (.iconst 1, 1) := by decide +kernel
theorem dM_isVowel_13 : decode cM_isVowel 13 = .ok (.goto 4, 3) := by decide +kernel
theorem dM_isVowel_16 : decode cM_isVowel 16 = .ok (.iconst 0, 1) := by decide +kernel
theorem dM_isVowel_17 : decode cM_isVowel 17 = .ok (.ireturn, 1) := by decide +kernel
theorem dM_isTail_0 : decode cM_isTail 0 = .ok (.iload_n 1, 1) := by decide +kernel
theorem dM_isTail_1 : decode cM_isTail 1 = .ok (.bipush 46, 2) := by decide +kernel
theorem dM_isTail_3 : decode cM_isTail 3 = .ok (.if_icmp .eq 9, 3) := by decide +kernel
theorem dM_isTail_6 : decode cM_isTail 6 = .ok (.iload_n 1, 1) := by decide +kernel
theorem dM_isTail_7 : decode cM_isTail 7 = .ok (.bipush 47, 2) := by decide +kernel
theorem dM_isTail_9 : decode cM_isTail 9 = .ok (.if_icmp .ne 7, 3) := by decide +kernel
theorem dM_isTail_12 : decode cM_isTail 12 = .ok (.iconst 1, 1) := by decide +kernel
theorem dM_isTail_13 : decode cM_isTail 13 = .ok (.goto 4, 3) := by decide +kernel
theorem dM_isTail_16 : decode cM_isTail 16 = .ok (.iconst 0, 1) := by decide +kernel
theorem dM_isTail_17 : decode cM_isTail 17 = .ok (.ireturn, 1) := by decide +kernel
theorem dM_isOpen_0 : decode cM_isOpen 0 = .ok (.iload_n 1, 1) := by decide +kernel
theorem dM_isOpen_1 : decode cM_isOpen 1 = .ok (.bipush 47, 2) := by decide +kernel
theorem dM_isOpen_3 : decode cM_isOpen 3 = .ok (.if_icmp .le 13, 3) := by decide +kernel
theorem dM_isOpen_6 : decode cM_isOpen 6 = .ok (.iload_n 1, 1) := by decide +kernel
theorem dM_isOpen_7 : decode cM_isOpen 7 = .ok (.iconst 3, 1) := by decide +kernel
theorem dM_isOpen_8 : decode cM_isOpen 8 = .ok (.irem, 1) := by decide +kernel
theorem dM_isOpen_9 : decode cM_isOpen 9 = .ok (.ifCond .ne 7, 3) := by decide +kernel
theorem dM_isOpen_12 : decode cM_isOpen 12 = .ok (.iconst 1, 1) := by decide +kernel
theorem dM_isOpen_13 : decode cM_isOpen 13 = .ok (.goto 4, 3) := by decide +kernel
theorem dM_isOpen_16 : decode cM_isOpen 16 = .ok (.iconst 0, 1) := by decide +kernel
theorem dM_isOpen_17 : decode cM_isOpen 17 = .ok (.ireturn, 1) := by decide +kernel
theorem dM_isClosed_0 : decode cM_isClosed 0 = .ok (.iload_n 1, 1) := by decide +kernel
theorem dM_isClosed_1 : decode cM_isClosed 1 = .ok (.bipush 47, 2) := by decide +kernel
theorem dM_isClosed_3 : decode cM_isClosed 3 = .ok (.if_icmp .le 13, 3) := by decide +kernel
theorem dM_isClosed_6 : decode cM_isClosed 6 = .ok (.iload_n 1, 1) := by decide +kernel
theorem dM_isClosed_7 : decode cM_isClosed 7 = .ok (.iconst 3, 1) := by decide +kernel
theorem dM_isClosed_8 : decode cM_isClosed 8 = .ok (.irem, 1) := by decide +kernel
theorem dM_isClosed_9 : decode cM_isClosed 9 = .ok (.ifCond .eq 7, 3) := by decide +kernel
theorem dM_isClosed_12 : decode cM_isClosed 12 = .ok (.iconst 1, 1) := by decide +kernel
theorem dM_isClosed_13 : decode cM_isClosed 13 = .ok (.goto 4, 3) := by decide +kernel
theorem dM_isClosed_16 : decode cM_isClosed 16 = .ok (.iconst 0, 1) := by decide +kernel
theorem dM_isClosed_17 : decode cM_isClosed 17 = .ok (.ireturn, 1) := by decide +kernel
theorem dM_type_0 : decode cM_type 0 = .ok (.aload_n 0, 1) := by decide +kernel
theorem dM_type_1 : decode cM_type 1 = .ok (.iload_n 1, 1) := by decide +kernel
theorem dM_type_2 : decode cM_type 2 = .ok (.ifCond .lt 9, 3) := by decide +kernel
theorem dM_type_5 : decode cM_type 5 = .ok (.iload_n 1, 1) := by decide +kernel
theorem dM_type_6 : decode cM_type 6 = .ok (.bipush 74, 2) := by decide +kernel
theorem dM_type_8 : decode cM_type 8 = .ok (.if_icmp .le 7, 3) := by decide +kernel
theorem dM_type_11 : decode cM_type 11 = .ok (.iconst 1, 1) := by decide +kernel
theorem dM_type_12 : decode cM_type 12 = .ok (.goto 17, 3) := by decide +kernel
theorem dM_type_15 : decode cM_type 15 = .ok (.aload_n 0, 1) := by decide +kernel
theorem dM_type_16 : decode cM_type 16 = .ok (.getfield 77, 3) := by decide +kernel
theorem dM_type_19 : decode cM_type 19 = .ok (.bipush 40, 2) := by decide +kernel
theorem dM_type_21 : decode cM_type 21 = .ok (.if_icmp .ne 7, 3) := by decide +kernel
theorem dM_type_24 : decode cM_type 24 = .ok (.iconst 2, 1) := by decide +kernel
theorem dM_type_25 : decode cM_type 25 = .ok (.goto 4, 3) := by decide +kernel
theorem dM_type_28 : decode cM_type 28 = .ok (.iconst 0, 1) := by decide +kernel
theorem dM_type_29 : decode cM_type 29 = .ok (.putfield 65, 3) := by decide +kernel
theorem dM_type_32 : decode cM_type 32 = .ok (.aload_n 0, 1) := by decide +kernel
theorem dM_type_33 : decode cM_type 33 = .ok (.getfield 65, 3) := by decide +kernel
theorem dM_type_36 : decode cM_type 36 = .ok (.ifCond .eq 5, 3) := by decide +kernel
theorem dM_type_39 : decode cM_type 39 = .ok (.iconst 0, 1) := by decide +kernel
theorem dM_type_40 : decode cM_type 40 = .ok (.ireturn, 1) := by decide +kernel
theorem dM_type_41 : decode cM_type 41 = .ok (.aload_n 0, 1) := by decide +kernel
theorem dM_type_42 : decode cM_type 42 = .ok (.getfield 26, 3) := by decide +kernel
theorem dM_type_45 : decode cM_type 45 = .ok (.aload_n 0, 1) := by decide +kernel
theorem dM_type_46 : decode cM_type 46 = .ok (.getfield 77, 3) := by decide +kernel
theorem dM_type_49 : decode cM_type 49 = .ok (.iload_n 1, 1) := by decide +kernel
theorem dM_type_50 : decode cM_type 50 = .ok (.iastore, 1) := by decide +kernel
theorem dM_type_51 : decode cM_type 51 = .ok (.aload_n 0, 1) := by decide +kernel
theorem dM_type_52 : decode cM_type 52 = .ok (.dup, 1) := by decide +kernel
theorem dM_type_53 : decode cM_type 53 = .ok (.getfield 77, 3) := by decide +kernel
theorem dM_type_56 : decode cM_type 56 = .ok (.iconst 1, 1) := by decide +kernel
theorem dM_type_57 : decode cM_type 57 = .ok (.iadd, 1) := by decide +kernel
theorem dM_type_58 : decode cM_type 58 = .ok (.putfield 77, 3) := by decide +kernel
theorem dM_type_61 : decode cM_type 61 = .ok (.aload_n 0, 1) := by decide +kernel
theorem dM_type_62 : decode cM_type 62 = .ok (.getfield 77, 3) := by decide +kernel
theorem dM_type_65 : decode cM_type 65 = .ok (.ireturn, 1) := by decide +kernel
theorem dM_wipe_0 : decode cM_wipe 0 = .ok (.aload_n 0, 1) := by decide +kernel
theorem dM_wipe_1 : decode cM_wipe 1 = .ok (.iconst 0, 1) := by decide +kernel
theorem dM_wipe_2 : decode cM_wipe 2 = .ok (.putfield 65, 3) := by decide +kernel
theorem dM_wipe_5 : decode cM_wipe 5 = .ok (.aload_n 0, 1) := by decide +kernel
theorem dM_wipe_6 : decode cM_wipe 6 = .ok (.iconst 0, 1) := by decide +kernel
theorem dM_wipe_7 : decode cM_wipe 7 = .ok (.putfield 77, 3) := by decide +kernel
theorem dM_wipe_10 : decode cM_wipe 10 = .ok (.return_, 1) := by decide +kernel
theorem dM_noPlace_0 : decode cM_noPlace 0 = .ok (.iload_n 1, 1) := by decide +kernel
theorem dM_noPlace_1 : decode cM_noPlace 1 = .ok (.ifCond .lt 8, 3) := by decide +kernel
theorem dM_noPlace_4 : decode cM_noPlace 4 = .ok (.iload_n 1, 1) := by decide +kernel
theorem dM_noPlace_5 : decode cM_noPlace 5 = .ok (.iload_n 2, 1) := by decide +kernel
theorem dM_noPlace_6 : decode cM_noPlace 6 = .ok (.if_icmp .lt 7, 3) := by decide +kernel
theorem dM_noPlace_9 : decode cM_noPlace 9 = .ok (.iconst 1, 1) := by decide +kernel
theorem dM_noPlace_10 : decode cM_noPlace 10 = .ok (.goto 4, 3) := by decide +kernel
theorem dM_noPlace_13 : decode cM_noPlace 13 = .ok (.iconst 0, 1) := by decide +kernel
theorem dM_noPlace_14 : decode cM_noPlace 14 = .ok (.ireturn, 1) := by decide +kernel
theorem dM_at_0 : decode cM_at 0 = .ok (.aload_n 0, 1) := by decide +kernel
theorem dM_at_1 : decode cM_at 1 = .ok (.aload_n 0, 1) := by decide +kernel
theorem dM_at_2 : decode cM_at 2 = .ok (.iload_n 1, 1) := by decide +kernel
theorem dM_at_3 : decode cM_at 3 = .ok (.aload_n 0, 1) := by decide +kernel
theorem dM_at_4 : decode cM_at 4 = .ok (.getfield 77, 3) := by decide +kernel
theorem dM_at_7 : decode cM_at 7 = .ok (.invokevirtual 80, 3) := by decide +kernel
theorem dM_at_10 : decode cM_at 10 = .ok (.ifCond .eq 7, 3) := by decide +kernel
theorem dM_at_13 : decode cM_at 13 = .ok (.iconst 1, 1) := by decide +kernel
theorem dM_at_14 : decode cM_at 14 = .ok (.goto 4, 3) := by decide +kernel
theorem dM_at_17 : decode cM_at 17 = .ok (.iconst 0, 1) := by decide +kernel
theorem dM_at_18 : decode cM_at 18 = .ok (.putfield 65, 3) := by decide +kernel
theorem dM_at_21 : decode cM_at 21 = .ok (.aload_n 0, 1) := by decide +kernel
theorem dM_at_22 : decode cM_at 22 = .ok (.getfield 65, 3) := by decide +kernel
theorem dM_at_25 : decode cM_at 25 = .ok (.ifCond .ne 12, 3) := by decide +kernel
theorem dM_at_28 : decode cM_at 28 = .ok (.aload_n 0, 1) := by decide +kernel
theorem dM_at_29 : decode cM_at 29 = .ok (.getfield 26, 3) := by decide +kernel
theorem dM_at_32 : decode cM_at 32 = .ok (.iload_n 1, 1) := by decide +kernel
theorem dM_at_33 : decode cM_at 33 = .ok (.iaload, 1) := by decide +kernel
theorem dM_at_34 : decode cM_at 34 = .ok (.goto 4, 3) := by decide +kernel
theorem dM_at_37 : decode cM_at 37 = .ok (.iconst 0, 1) := by decide +kernel
theorem dM_at_38 : decode cM_at 38 = .ok (.ireturn, 1) := by decide +kernel
theorem dM_put_0 : decode cM_put 0 = .ok (.aload_n 0, 1) := by decide +kernel
theorem dM_put_1 : decode cM_put 1 = .ok (.getfield 35, 3) := by decide +kernel
theorem dM_put_4 : decode cM_put 4 = .ok (.aload_n 0, 1) := by decide +kernel
theorem dM_put_5 : decode cM_put 5 = .ok (.getfield 84, 3) := by decide +kernel
theorem dM_put_8 : decode cM_put 8 = .ok (.iload_n 1, 1) := by decide +kernel
theorem dM_put_9 : decode cM_put 9 = .ok (.iastore, 1) := by decide +kernel
theorem dM_put_10 : decode cM_put 10 = .ok (.aload_n 0, 1) := by decide +kernel
theorem dM_put_11 : decode cM_put 11 = .ok (.dup, 1) := by decide +kernel
theorem dM_put_12 : decode cM_put 12 = .ok (.getfield 84, 3) := by decide +kernel
theorem dM_put_15 : decode cM_put 15 = .ok (.iconst 1, 1) := by decide +kernel
theorem dM_put_16 : decode cM_put 16 = .ok (.iadd, 1) := by decide +kernel
theorem dM_put_17 : decode cM_put 17 = .ok (.putfield 84, 3) := by decide +kernel
theorem dM_put_20 : decode cM_put 20 = .ok (.return_, 1) := by decide +kernel
theorem dM_putParts_0 : decode cM_putParts 0 = .ok (.iconst 1, 1) := by decide +kernel
theorem dM_putParts_1 : decode cM_putParts 1 = .ok (.istore_n 2, 1) := by decide +kernel
theorem dM_putParts_2 : decode cM_putParts 2 = .ok (.aload_n 0, 1) := by decide +kernel
theorem dM_putParts_3 : decode cM_putParts 3 = .ok (.getfield 41, 3) := by decide +kernel
theorem dM_putParts_6 : decode cM_putParts 6 = .ok (.iconst 0, 1) := by decide +kernel
theorem dM_putParts_7 : decode cM_putParts 7 = .ok (.iload_n 1, 1) := by decide +kernel
theorem dM_putParts_8 : decode cM_putParts 8 = .ok (.iastore, 1) := by decide +kernel
theorem dM_putParts_9 : decode cM_putParts 9 = .ok (.iload_n 2, 1) := by decide +kernel
theorem dM_putParts_10 : decode cM_putParts 10 = .ok (.ifCond .le 132, 3) := by decide +kernel
theorem dM_putParts_13 : decode cM_putParts 13 = .ok (.iinc 2 (-1), 3) := by decide +kernel
theorem dM_putParts_16 : decode cM_putParts 16 = .ok (.aload_n 0, 1) := by decide +kernel
theorem dM_putParts_17 : decode cM_putParts 17 = .ok (.getfield 41, 3) := by decide +kernel
theorem dM_putParts_20 : decode cM_putParts 20 = .ok (.iload_n 2, 1) := by decide +kernel
theorem dM_putParts_21 : decode cM_putParts 21 = .ok (.iaload, 1) := by decide +kernel
theorem dM_putParts_22 : decode cM_putParts 22 = .ok (.istore_n 3, 1) := by decide +kernel
theorem dM_putParts_23 : decode cM_putParts 23 = .ok (.iload_n 3, 1) := by decide +kernel
theorem dM_putParts_24 : decode cM_putParts 24 = .ok (.bipush 47, 2) := by decide +kernel
theorem dM_putParts_26 : decode cM_putParts 26 = .ok (.if_icmp .le 51, 3) := by decide +kernel
theorem dM_putParts_29 : decode cM_putParts 29 = .ok (.aload_n 0, 1) := by decide +kernel
theorem dM_putParts_30 : decode cM_putParts 30 = .ok (.bipush 40, 2) := by decide +kernel
theorem dM_putParts_32 : decode cM_putParts 32 = .ok (.iload_n 3, 1) := by decide +kernel
theorem dM_putParts_33 : decode cM_putParts 33 = .ok (.bipush 48, 2) := by decide +kernel
theorem dM_putParts_35 : decode cM_putParts 35 = .ok (.isub, 1) := by decide +kernel
theorem dM_putParts_36 : decode cM_putParts 36 = .ok (.bipush 9, 2) := by decide +kernel
theorem dM_putParts_38 : decode cM_putParts 38 = .ok (.idiv, 1) := by decide +kernel
theorem dM_putParts_39 : decode cM_putParts 39 = .ok (.iadd, 1) := by decide +kernel
theorem dM_putParts_40 : decode cM_putParts 40 = .ok (.invokevirtual 87, 3) := by decide +kernel
theorem dM_putParts_43 : decode cM_putParts 43 = .ok (.aload_n 0, 1) := by decide +kernel
theorem dM_putParts_44 : decode cM_putParts 44 = .ok (.bipush 43, 2) := by decide +kernel
theorem dM_putParts_46 : decode cM_putParts 46 = .ok (.iload_n 3, 1) := by decide +kernel
theorem dM_putParts_47 : decode cM_putParts 47 = .ok (.bipush 48, 2) := by decide +kernel
theorem dM_putParts_49 : decode cM_putParts 49 = .ok (.isub, 1) := by decide +kernel
theorem dM_putParts_50 : decode cM_putParts 50 = .ok (.iconst 3, 1) := by decide +kernel
theorem dM_putParts_51 : decode cM_putParts 51 = .ok (.idiv, 1) := by decide +kernel
theorem dM_putParts_52 : decode cM_putParts 52 = .ok (.iconst 3, 1) := by decide +kernel
theorem dM_putParts_53 : decode cM_putParts 53 = .ok (.irem, 1) := by decide +kernel
theorem dM_putParts_54 : decode cM_putParts 54 = .ok (.iadd, 1) := by decide +kernel
theorem dM_putParts_55 : decode cM_putParts 55 = .ok (.invokevirtual 87, 3) := by decide +kernel
theorem dM_putParts_58 : decode cM_putParts 58 = .ok (.iload_n 3, 1) := by decide +kernel
theorem dM_putParts_59 : decode cM_putParts 59 = .ok (.iconst 3, 1) := by decide +kernel
theorem dM_putParts_60 : decode cM_putParts 60 = .ok (.irem, 1) := by decide +kernel
theorem dM_putParts_61 : decode cM_putParts 61 = .ok (.ifCond .eq 78, 3) := by decide +kernel
theorem dM_putParts_64 : decode cM_putParts 64 = .ok (.aload_n 0, 1) := by decide +kernel
theorem dM_putParts_65 : decode cM_putParts 65 = .ok (.bipush 45, 2) := by decide +kernel
theorem dM_putParts_67 : decode cM_putParts 67 = .ok (.iload_n 3, 1) := by decide +kernel
theorem dM_putParts_68 : decode cM_putParts 68 = .ok (.iconst 3, 1) := by decide +kernel
theorem dM_putParts_69 : decode cM_putParts 69 = .ok (.irem, 1) := by decide +kernel
theorem dM_putParts_70 : decode cM_putParts 70 = .ok (.iadd, 1) := by decide +kernel
theorem dM_putParts_71 : decode cM_putParts 71 = .ok (.invokevirtual 87, 3) := by decide +kernel
theorem dM_putParts_74 : decode cM_putParts 74 = .ok (.goto 65, 3) := by decide +kernel
theorem dM_putParts_77 : decode cM_putParts 77 = .ok (.iload_n 3, 1) := by decide +kernel
theorem dM_putParts_78 : decode cM_putParts 78 = .ok (.bipush 40, 2) := by decide +kernel
theorem dM_putParts_80 : decode cM_putParts 80 = .ok (.if_icmp .ge 54, 3) := by decide +kernel
theorem dM_putParts_83 : decode cM_putParts 83 = .ok (.aload_n 0, 1) := by decide +kernel
theorem dM_putParts_84 : decode cM_putParts 84 = .ok (.getfield 13, 3) := by decide +kernel
theorem dM_putParts_87 : decode cM_putParts 87 = .ok (.iload_n 3, 1) := by decide +kernel
theorem dM_putParts_88 : decode cM_putParts 88 = .ok (.iaload, 1) := by decide +kernel
theorem dM_putParts_89 : decode cM_putParts 89 = .ok (.ifCond .lt 45, 3) := by decide +kernel
theorem dM_putParts_92 : decode cM_putParts 92 = .ok (.aload_n 0, 1) := by decide +kernel
theorem dM_putParts_93 : decode cM_putParts 93 = .ok (.getfield 16, 3) := by decide +kernel
theorem dM_putParts_96 : decode cM_putParts 96 = .ok (.iload_n 3, 1) := by decide +kernel
theorem dM_putParts_97 : decode cM_putParts 97 = .ok (.iaload, 1) := by decide +kernel
theorem dM_putParts_98 : decode cM_putParts 98 = .ok (.ifCond .lt 18, 3) := by decide +kernel
theorem dM_putParts_101 : decode cM_putParts 101 = .ok (.aload_n 0, 1) := by decide +kernel
theorem dM_putParts_102 : decode cM_putParts 102 = .ok (.getfield 41, 3) := by decide +kernel
theorem dM_putParts_105 : decode cM_putParts 105 = .ok (.iload_n 2, 1) := by decide +kernel
theorem dM_putParts_106 : decode cM_putParts 106 = .ok (.aload_n 0, 1) := by decide +kernel
theorem dM_putParts_107 : decode cM_putParts 107 = .ok (.getfield 16, 3) := by decide +kernel
theorem dM_putParts_110 : decode cM_putParts 110 = .ok (.iload_n 3, 1) := by decide +kernel
theorem dM_putParts_111 : decode cM_putParts 111 = .ok (.iaload, 1) := by decide +kernel
theorem dM_putParts_112 : decode cM_putParts 112 = .ok (.iastore, 1) := by decide +kernel
theorem dM_putParts_113 : decode cM_putParts 113 = .ok (.iinc 2 1, 3) := by decide +kernel
theorem dM_putParts_116 : decode cM_putParts 116 = .ok (.aload_n 0, 1) := by decide +kernel
theorem dM_putParts_117 : decode cM_putParts 117 = .ok (.getfield 41, 3) := by decide +kernel
theorem dM_putParts_120 : decode cM_putParts 120 = .ok (.iload_n 2, 1) := by decide +kernel
theorem dM_putParts_121 : decode cM_putParts 121 = .ok (.aload_n 0, 1) := by decide +kernel
theorem dM_putParts_122 : decode cM_putParts 122 = .ok (.getfield 13, 3) := by decide +kernel
theorem dM_putParts_125 : decode cM_putParts 125 = .ok (.iload_n 3, 1) := by decide +kernel
theorem dM_putParts_126 : decode cM_putParts 126 = .ok (.iaload, 1) := by decide +kernel
theorem dM_putParts_127 : decode cM_putParts 127 = .ok (.iastore, 1) := by decide +kernel
theorem dM_putParts_128 : decode cM_putParts 128 = .ok (.iinc 2 1, 3) := by decide +kernel
theorem dM_putParts_131 : decode cM_putParts 131 = .ok (.goto 8, 3) := by decide +kernel
theorem dM_putParts_134 : decode cM_putParts 134 = .ok (.aload_n 0, 1) := by decide +kernel
theorem dM_putParts_135 : decode cM_putParts 135 = .ok (.iload_n 3, 1) := by decide +kernel
theorem dM_putParts_136 : decode cM_putParts 136 = .ok (.invokevirtual 87, 3) := by decide +kernel
theorem dM_putParts_139 : decode cM_putParts 139 = .ok (.goto (-130), 3) := by decide +kernel
theorem dM_putParts_142 : decode cM_putParts 142 = .ok (.return_, 1) := by decide +kernel
theorem dM_rankForm_0 : decode cM_rankForm 0 = .ok (.iconst 0, 1) := by decide +kernel
theorem dM_rankForm_1 : decode cM_rankForm 1 = .ok (.istore_n 1, 1) := by decide +kernel
theorem dM_rankForm_2 : decode cM_rankForm 2 = .ok (.iload_n 1, 1) := by decide +kernel
theorem dM_rankForm_3 : decode cM_rankForm 3 = .ok (.aload_n 0, 1) := by decide +kernel
theorem dM_rankForm_4 : decode cM_rankForm 4 = .ok (.getfield 84, 3) := by decide +kernel
theorem dM_rankForm_7 : decode cM_rankForm 7 = .ok (.if_icmp .ge 84, 3) := by decide +kernel
theorem dM_rankForm_10 : decode cM_rankForm 10 = .ok (.iconst 0, 1) := by decide +kernel
theorem dM_rankForm_11 : decode cM_rankForm 11 = .ok (.istore_n 2, 1) := by decide +kernel
theorem dM_rankForm_12 : decode cM_rankForm 12 = .ok (.iload_n 2, 1) := by decide +kernel
theorem dM_rankForm_13 : decode cM_rankForm 13 = .ok (.iconst 1, 1) := by decide +kernel
theorem dM_rankForm_14 : decode cM_rankForm 14 = .ok (.iadd, 1) := by decide +kernel
theorem dM_rankForm_15 : decode cM_rankForm 15 = .ok (.aload_n 0, 1) := by decide +kernel
theorem dM_rankForm_16 : decode cM_rankForm 16 = .ok (.getfield 84, 3) := by decide +kernel
theorem dM_rankForm_19 : decode cM_rankForm 19 = .ok (.if_icmp .ge 66, 3) := by decide +kernel
theorem dM_rankForm_22 : decode cM_rankForm 22 = .ok (.aload_n 0, 1) := by decide +kernel
theorem dM_rankForm_23 : decode cM_rankForm 23 = .ok (.getfield 35, 3) := by decide +kernel
theorem dM_rankForm_26 : decode cM_rankForm 26 = .ok (.iload_n 2, 1) := by decide +kernel
theorem dM_rankForm_27 : decode cM_rankForm 27 = .ok (.iaload, 1) := by decide +kernel
theorem dM_rankForm_28 : decode cM_rankForm 28 = .ok (.istore_n 3, 1) := by decide +kernel
theorem dM_rankForm_29 : decode cM_rankForm 29 = .ok (.aload_n 0, 1) := by decide +kernel
theorem dM_rankForm_30 : decode cM_rankForm 30 = .ok (.getfield 35, 3) := by decide +kernel
theorem dM_rankForm_33 : decode cM_rankForm 33 = .ok (.iload_n 2, 1) := by decide +kernel
theorem dM_rankForm_34 : decode cM_rankForm 34 = .ok (.iconst 1, 1) := by decide +kernel
theorem dM_rankForm_35 : decode cM_rankForm 35 = .ok (.iadd, 1) := by decide +kernel
theorem dM_rankForm_36 : decode cM_rankForm 36 = .ok (.iaload, 1) := by decide +kernel
theorem dM_rankForm_37 : decode cM_rankForm 37 = .ok (.istore 4, 2) := by decide +kernel
theorem dM_rankForm_39 : decode cM_rankForm 39 = .ok (.aload_n 0, 1) := by decide +kernel
theorem dM_rankForm_40 : decode cM_rankForm 40 = .ok (.iload_n 3, 1) := by decide +kernel
theorem dM_rankForm_41 : decode cM_rankForm 41 = .ok (.invokevirtual 91, 3) := by decide +kernel
theorem dM_rankForm_44 : decode cM_rankForm 44 = .ok (.aload_n 0, 1) := by decide +kernel
theorem dM_rankForm_45 : decode cM_rankForm 45 = .ok (.iload 4, 2) := by decide +kernel
theorem dM_rankForm_47 : decode cM_rankForm 47 = .ok (.invokevirtual 91, 3) := by decide +kernel
theorem dM_rankForm_50 : decode cM_rankForm 50 = .ok (.if_icmp .le 29, 3) := by decide +kernel
theorem dM_rankForm_53 : decode cM_rankForm 53 = .ok (.aload_n 0, 1) := by decide +kernel
theorem dM_rankForm_54 : decode cM_rankForm 54 = .ok (.iload 4, 2) := by decide +kernel
theorem dM_rankForm_56 : decode cM_rankForm 56 = .ok (.invokevirtual 91, 3) := by decide +kernel
theorem dM_rankForm_59 : decode cM_rankForm 59 = .ok (.ifCond .le 20, 3) := by decide +kernel
theorem dM_rankForm_62 : decode cM_rankForm 62 = .ok (.aload_n 0, 1) := by decide +kernel
theorem dM_rankForm_63 : decode cM_rankForm 63 = .ok (.getfield 35, 3) := by decide +kernel
theorem dM_rankForm_66 : decode cM_rankForm 66 = .ok (.iload_n 2, 1) := by decide +kernel
theorem dM_rankForm_67 : decode cM_rankForm 67 = .ok (.iload 4, 2) := by decide +kernel
theorem dM_rankForm_69 : decode cM_rankForm 69 = .ok (.iastore, 1) := by decide +kernel
theorem dM_rankForm_70 : decode cM_rankForm 70 = .ok (.aload_n 0, 1) := by decide +kernel
theorem dM_rankForm_71 : decode cM_rankForm 71 = .ok (.getfield 35, 3) := by decide +kernel
theorem dM_rankForm_74 : decode cM_rankForm 74 = .ok (.iload_n 2, 1) := by decide +kernel
theorem dM_rankForm_75 : decode cM_rankForm 75 = .ok (.iconst 1, 1) := by decide +kernel
theorem dM_rankForm_76 : decode cM_rankForm 76 = .ok (.iadd, 1) := by decide +kernel
theorem dM_rankForm_77 : decode cM_rankForm 77 = .ok (.iload_n 3, 1) := by decide +kernel
theorem dM_rankForm_78 : decode cM_rankForm 78 = .ok (.iastore, 1) := by decide +kernel
theorem dM_rankForm_79 : decode cM_rankForm 79 = .ok (.iinc 2 1, 3) := by decide +kernel
theorem dM_rankForm_82 : decode cM_rankForm 82 = .ok (.goto (-70), 3) := by decide +kernel
theorem dM_rankForm_85 : decode cM_rankForm 85 = .ok (.iinc 1 1, 3) := by decide +kernel
theorem dM_rankForm_88 : decode cM_rankForm 88 = .ok (.goto (-86), 3) := by decide +kernel
theorem dM_rankForm_91 : decode cM_rankForm 91 = .ok (.return_, 1) := by decide +kernel
theorem dM_partText_0 : decode cM_partText 0 = .ok (.aload_n 0, 1) := by decide +kernel
theorem dM_partText_1 : decode cM_partText 1 = .ok (.iconst 0, 1) := by decide +kernel
theorem dM_partText_2 : decode cM_partText 2 = .ok (.putfield 84, 3) := by decide +kernel
theorem dM_partText_5 : decode cM_partText 5 = .ok (.iconst 0, 1) := by decide +kernel
theorem dM_partText_6 : decode cM_partText 6 = .ok (.istore_n 1, 1) := by decide +kernel
theorem dM_partText_7 : decode cM_partText 7 = .ok (.iload_n 1, 1) := by decide +kernel
theorem dM_partText_8 : decode cM_partText 8 = .ok (.aload_n 0, 1) := by decide +kernel
theorem dM_partText_9 : decode cM_partText 9 = .ok (.getfield 77, 3) := by decide +kernel
theorem dM_partText_12 : decode cM_partText 12 = .ok (.if_icmp .ge 19, 3) := by decide +kernel
theorem dM_partText_15 : decode cM_partText 15 = .ok (.aload_n 0, 1) := by decide +kernel
theorem dM_partText_16 : decode cM_partText 16 = .ok (.aload_n 0, 1) := by decide +kernel
theorem dM_partText_17 : decode cM_partText 17 = .ok (.getfield 26, 3) := by decide +kernel
theorem dM_partText_20 : decode cM_partText 20 = .ok (.iload_n 1, 1) := by decide +kernel
theorem dM_partText_21 : decode cM_partText 21 = .ok (.iaload, 1) := by decide +kernel
theorem dM_partText_22 : decode cM_partText 22 = .ok (.invokevirtual 95, 3) := by decide +kernel
theorem dM_partText_25 : decode cM_partText 25 = .ok (.iinc 1 1, 3) := by decide +kernel
theorem dM_partText_28 : decode cM_partText 28 = .ok (.goto (-21), 3) := by decide +kernel
theorem dM_partText_31 : decode cM_partText 31 = .ok (.aload_n 0, 1) := by decide +kernel
theorem dM_partText_32 : decode cM_partText 32 = .ok (.invokevirtual 98, 3) := by decide +kernel
theorem dM_partText_35 : decode cM_partText 35 = .ok (.return_, 1) := by decide +kernel
theorem dM_partKept_0 : decode cM_partKept 0 = .ok (.aload_n 0, 1) := by decide +kernel
theorem dM_partKept_1 : decode cM_partKept 1 = .ok (.iconst 0, 1) := by decide +kernel
theorem dM_partKept_2 : decode cM_partKept 2 = .ok (.putfield 84, 3) := by decide +kernel
theorem dM_partKept_5 : decode cM_partKept 5 = .ok (.iconst 0, 1) := by decide +kernel
theorem dM_partKept_6 : decode cM_partKept 6 = .ok (.istore_n 2, 1) := by decide +kernel
theorem dM_partKept_7 : decode cM_partKept 7 = .ok (.iload_n 2, 1) := by decide +kernel
theorem dM_partKept_8 : decode cM_partKept 8 = .ok (.aload_n 0, 1) := by decide +kernel
theorem dM_partKept_9 : decode cM_partKept 9 = .ok (.getfield 29, 3) := by decide +kernel
theorem dM_partKept_12 : decode cM_partKept 12 = .ok (.iload_n 1, 1) := by decide +kernel
theorem dM_partKept_13 : decode cM_partKept 13 = .ok (.iaload, 1) := by decide +kernel
theorem dM_partKept_14 : decode cM_partKept 14 = .ok (.if_icmp .ge 24, 3) := by decide +kernel
theorem dM_partKept_17 : decode cM_partKept 17 = .ok (.aload_n 0, 1) := by decide +kernel
theorem dM_partKept_18 : decode cM_partKept 18 = .ok (.aload_n 0, 1) := by decide +kernel
theorem dM_partKept_19 : decode cM_partKept 19 = .ok (.getfield 32, 3) := by decide +kernel
theorem dM_partKept_22 : decode cM_partKept 22 = .ok (.bipush 40, 2) := by decide +kernel
theorem dM_partKept_24 : decode cM_partKept 24 = .ok (.iload_n 1, 1) := by decide +kernel
theorem dM_partKept_25 : decode cM_partKept 25 = .ok (.imul, 1) := by decide +kernel
theorem dM_partKept_26 : decode cM_partKept 26 = .ok (.iload_n 2, 1) := by decide +kernel
theorem dM_partKept_27 : decode cM_partKept 27 = .ok (.iadd, 1) := by decide +kernel
theorem dM_partKept_28 : decode cM_partKept 28 = .ok (.iaload, 1) := by decide +kernel
theorem dM_partKept_29 : decode cM_partKept 29 = .ok (.invokevirtual 95, 3) := by decide +kernel
theorem dM_partKept_32 : decode cM_partKept 32 = .ok (.iinc 2 1, 3) := by decide +kernel
theorem dM_partKept_35 : decode cM_partKept 35 = .ok (.goto (-28), 3) := by decide +kernel
theorem dM_partKept_38 : decode cM_partKept 38 = .ok (.aload_n 0, 1) := by decide +kernel
theorem dM_partKept_39 : decode cM_partKept 39 = .ok (.invokevirtual 98, 3) := by decide +kernel
theorem dM_partKept_42 : decode cM_partKept 42 = .ok (.return_, 1) := by decide +kernel
theorem dM_joins_0 : decode cM_joins 0 = .ok (.aload_n 0, 1) := by decide +kernel
theorem dM_joins_1 : decode cM_joins 1 = .ok (.iload_n 1, 1) := by decide +kernel
theorem dM_joins_2 : decode cM_joins 2 = .ok (.invokevirtual 101, 3) := by decide +kernel
theorem dM_joins_5 : decode cM_joins 5 = .ok (.ifCond .eq 29, 3) := by decide +kernel
theorem dM_joins_8 : decode cM_joins 8 = .ok (.aload_n 0, 1) := by decide +kernel
theorem dM_joins_9 : decode cM_joins 9 = .ok (.iload_n 2, 1) := by decide +kernel
theorem dM_joins_10 : decode cM_joins 10 = .ok (.invokevirtual 105, 3) := by decide +kernel
theorem dM_joins_13 : decode cM_joins 13 = .ok (.ifCond .eq 21, 3) := by decide +kernel
theorem dM_joins_16 : decode cM_joins 16 = .ok (.bipush 48, 2) := by decide +kernel
theorem dM_joins_18 : decode cM_joins 18 = .ok (.bipush 9, 2) := by decide +kernel
theorem dM_joins_20 : decode cM_joins 20 = .ok (.iload_n 1, 1) := by decide +kernel
theorem dM_joins_21 : decode cM_joins 21 = .ok (.bipush 40, 2) := by decide +kernel
theorem dM_joins_23 : decode cM_joins 23 = .ok (.isub, 1) := by decide +kernel
theorem dM_joins_24 : decode cM_joins 24 = .ok (.imul, 1) := by decide +kernel
theorem dM_joins_25 : decode cM_joins 25 = .ok (.iadd, 1) := by decide +kernel
theorem dM_joins_26 : decode cM_joins 26 = .ok (.iconst 3, 1) := by decide +kernel
theorem dM_joins_27 : decode cM_joins 27 = .ok (.iload_n 2, 1) := by decide +kernel
theorem dM_joins_28 : decode cM_joins 28 = .ok (.bipush 43, 2) := by decide +kernel
theorem dM_joins_30 : decode cM_joins 30 = .ok (.isub, 1) := by decide +kernel
theorem dM_joins_31 : decode cM_joins 31 = .ok (.imul, 1) := by decide +kernel
theorem dM_joins_32 : decode cM_joins 32 = .ok (.iadd, 1) := by decide +kernel
theorem dM_joins_33 : decode cM_joins 33 = .ok (.ireturn, 1) := by decide +kernel
theorem dM_joins_34 : decode cM_joins 34 = .ok (.aload_n 0, 1) := by decide +kernel
theorem dM_joins_35 : decode cM_joins 35 = .ok (.iload_n 1, 1) := by decide +kernel
theorem dM_joins_36 : decode cM_joins 36 = .ok (.invokevirtual 108, 3) := by decide +kernel
theorem dM_joins_39 : decode cM_joins 39 = .ok (.ifCond .eq 18, 3) := by decide +kernel
theorem dM_joins_42 : decode cM_joins 42 = .ok (.aload_n 0, 1) := by decide +kernel
theorem dM_joins_43 : decode cM_joins 43 = .ok (.iload_n 2, 1) := by decide +kernel
theorem dM_joins_44 : decode cM_joins 44 = .ok (.invokevirtual 111, 3) := by decide +kernel
theorem dM_joins_47 : decode cM_joins 47 = .ok (.ifCond .eq 10, 3) := by decide +kernel
theorem dM_joins_50 : decode cM_joins 50 = .ok (.iload_n 1, 1) := by decide +kernel
theorem dM_joins_51 : decode cM_joins 51 = .ok (.iload_n 2, 1) := by decide +kernel
theorem dM_joins_52 : decode cM_joins 52 = .ok (.iadd, 1) := by decide +kernel
theorem dM_joins_53 : decode cM_joins 53 = .ok (.bipush 45, 2) := by decide +kernel
theorem dM_joins_55 : decode cM_joins 55 = .ok (.isub, 1) := by decide +kernel
theorem dM_joins_56 : decode cM_joins 56 = .ok (.ireturn, 1) := by decide +kernel
theorem dM_joins_57 : decode cM_joins 57 = .ok (.iconst (-1), 1) := by decide +kernel
theorem dM_joins_58 : decode cM_joins 58 = .ok (.istore_n 3, 1) := by decide +kernel
theorem dM_joins_59 : decode cM_joins 59 = .ok (.bipush 39, 2) := by decide +kernel
theorem dM_joins_61 : decode cM_joins 61 = .ok (.istore 4, 2) := by decide +kernel
theorem dM_joins_63 : decode cM_joins 63 = .ok (.iload 4, 2) := by decide +kernel
theorem dM_joins_65 : decode cM_joins 65 = .ok (.ifCond .lt 61, 3) := by decide +kernel
theorem dM_joins_68 : decode cM_joins 68 = .ok (.aload_n 0, 1) := by decide +kernel
theorem dM_joins_69 : decode cM_joins 69 = .ok (.iload 4, 2) := by decide +kernel
theorem dM_joins_71 : decode cM_joins 71 = .ok (.invokevirtual 91, 3) := by decide +kernel
theorem dM_joins_74 : decode cM_joins 74 = .ok (.ifCond .ne 44, 3) := by decide +kernel
theorem dM_joins_77 : decode cM_joins 77 = .ok (.aload_n 0, 1) := by decide +kernel
theorem dM_joins_78 : decode cM_joins 78 = .ok (.getfield 13, 3) := by decide +kernel
theorem dM_joins_81 : decode cM_joins 81 = .ok (.iload 4, 2) := by decide +kernel
theorem dM_joins_83 : decode cM_joins 83 = .ok (.iaload, 1) := by decide +kernel
theorem dM_joins_84 : decode cM_joins 84 = .ok (.iload_n 1, 1) := by decide +kernel
theorem dM_joins_85 : decode cM_joins 85 = .ok (.if_icmp .ne 33, 3) := by decide +kernel
theorem dM_joins_88 : decode cM_joins 88 = .ok (.aload_n 0, 1) := by decide +kernel
theorem dM_joins_89 : decode cM_joins 89 = .ok (.getfield 16, 3) := by decide +kernel
theorem dM_joins_92 : decode cM_joins 92 = .ok (.iload 4, 2) := by decide +kernel
theorem dM_joins_94 : decode cM_joins 94 = .ok (.iaload, 1) := by decide +kernel
theorem dM_joins_95 : decode cM_joins 95 = .ok (.iload_n 2, 1) := by decide +kernel
theorem dM_joins_96 : decode cM_joins 96 = .ok (.if_icmp .ne 22, 3) := by decide +kernel
theorem dM_joins_99 : decode cM_joins 99 = .ok (.iload_n 2, 1) := by decide +kernel
theorem dM_joins_100 : decode cM_joins 100 = .ok (.ifCond .lt 18, 3) := by decide +kernel
theorem dM_joins_103 : decode cM_joins 103 = .ok (.aload_n 0, 1) := by decide +kernel
theorem dM_joins_104 : decode cM_joins 104 = .ok (.getfield 19, 3) := by decide +kernel
theorem dM_joins_107 : decode cM_joins 107 = .ok (.iload 4, 2) := by decide +kernel
theorem dM_joins_109 : decode cM_joins 109 = .ok (.baload, 1) := by decide +kernel
theorem dM_joins_110 : decode cM_joins 110 = .ok (.ifCond .ne 8, 3) := by decide +kernel
theorem dM_joins_113 : decode cM_joins 113 = .ok (.iload 4, 2) := by decide +kernel
theorem dM_joins_115 : decode cM_joins 115 = .ok (.goto 4, 3) := by decide +kernel
theorem dM_joins_118 : decode cM_joins 118 = .ok (.iload_n 3, 1) := by decide +kernel
theorem dM_joins_119 : decode cM_joins 119 = .ok (.istore_n 3, 1) := by decide +kernel
theorem dM_joins_120 : decode cM_joins 120 = .ok (.iinc 4 (-1), 3) := by decide +kernel
theorem dM_joins_123 : decode cM_joins 123 = .ok (.goto (-60), 3) := by decide +kernel
theorem dM_joins_126 : decode cM_joins 126 = .ok (.iload_n 3, 1) := by decide +kernel
theorem dM_joins_127 : decode cM_joins 127 = .ok (.ireturn, 1) := by decide +kernel
theorem dM_starter_0 : decode cM_starter 0 = .ok (.iload_n 1, 1) := by decide +kernel
theorem dM_starter_1 : decode cM_starter 1 = .ok (.iconst 1, 1) := by decide +kernel
theorem dM_starter_2 : decode cM_starter 2 = .ok (.isub, 1) := by decide +kernel
theorem dM_starter_3 : decode cM_starter 3 = .ok (.istore_n 2, 1) := by decide +kernel
theorem dM_starter_4 : decode cM_starter 4 = .ok (.iload_n 2, 1) := by decide +kernel
theorem dM_starter_5 : decode cM_starter 5 = .ok (.ifCond .lt 22, 3) := by decide +kernel
theorem dM_starter_8 : decode cM_starter 8 = .ok (.aload_n 0, 1) := by decide +kernel
theorem dM_starter_9 : decode cM_starter 9 = .ok (.aload_n 0, 1) := by decide +kernel
theorem dM_starter_10 : decode cM_starter 10 = .ok (.getfield 35, 3) := by decide +kernel
theorem dM_starter_13 : decode cM_starter 13 = .ok (.iload_n 2, 1) := by decide +kernel
theorem dM_starter_14 : decode cM_starter 14 = .ok (.iaload, 1) := by decide +kernel
theorem dM_starter_15 : decode cM_starter 15 = .ok (.invokevirtual 91, 3) := by decide +kernel
theorem dM_starter_18 : decode cM_starter 18 = .ok (.ifCond .le 9, 3) := by decide +kernel
theorem dM_starter_21 : decode cM_starter 21 = .ok (.iinc 2 (-1), 3) := by decide +kernel
theorem dM_starter_24 : decode cM_starter 24 = .ok (.goto (-20), 3) := by decide +kernel
theorem dM_starter_27 : decode cM_starter 27 = .ok (.iload_n 2, 1) := by decide +kernel
theorem dM_starter_28 : decode cM_starter 28 = .ok (.ireturn, 1) := by decide +kernel
theorem dM_isFree_0 : decode cM_isFree 0 = .ok (.iconst 1, 1) := by decide +kernel
theorem dM_isFree_1 : decode cM_isFree 1 = .ok (.istore_n 3, 1) := by decide +kernel
theorem dM_isFree_2 : decode cM_isFree 2 = .ok (.iload_n 1, 1) := by decide +kernel
theorem dM_isFree_3 : decode cM_isFree 3 = .ok (.iconst 1, 1) := by decide +kernel
theorem dM_isFree_4 : decode cM_isFree 4 = .ok (.iadd, 1) := by decide +kernel
theorem dM_isFree_5 : decode cM_isFree 5 = .ok (.istore 4, 2) := by decide +kernel
theorem dM_isFree_7 : decode cM_isFree 7 = .ok (.iload 4, 2) := by decide +kernel
theorem dM_isFree_9 : decode cM_isFree 9 = .ok (.iload_n 2, 1) := by decide +kernel
theorem dM_isFree_10 : decode cM_isFree 10 = .ok (.if_icmp .ge 43, 3) := by decide +kernel
theorem dM_isFree_13 : decode cM_isFree 13 = .ok (.iload_n 3, 1) := by decide +kernel
theorem dM_isFree_14 : decode cM_isFree 14 = .ok (.ifCond .eq 31, 3) := by decide +kernel
theorem dM_isFree_17 : decode cM_isFree 17 = .ok (.aload_n 0, 1) := by decide +kernel
theorem dM_isFree_18 : decode cM_isFree 18 = .ok (.aload_n 0, 1) := by decide +kernel
theorem dM_isFree_19 : decode cM_isFree 19 = .ok (.getfield 35, 3) := by decide +kernel
theorem dM_isFree_22 : decode cM_isFree 22 = .ok (.iload 4, 2) := by decide +kernel
theorem dM_isFree_24 : decode cM_isFree 24 = .ok (.iaload, 1) := by decide +kernel
theorem dM_isFree_25 : decode cM_isFree 25 = .ok (.invokevirtual 91, 3) := by decide +kernel
theorem dM_isFree_28 : decode cM_isFree 28 = .ok (.aload_n 0, 1) := by decide +kernel
theorem dM_isFree_29 : decode cM_isFree 29 = .ok (.aload_n 0, 1) := by decide +kernel
theorem dM_isFree_30 : decode cM_isFree 30 = .ok (.getfield 35, 3) := by decide +kernel
theorem dM_isFree_33 : decode cM_isFree 33 = .ok (.iload_n 2, 1) := by decide +kernel
theorem dM_isFree_34 : decode cM_isFree 34 = .ok (.iaload, 1) := by decide +kernel
theorem dM_isFree_35 : decode cM_isFree 35 = .ok (.invokevirtual 91, 3) := by decide +kernel
theorem dM_isFree_38 : decode cM_isFree 38 = .ok (.if_icmp .ge 7, 3) := by decide +kernel
theorem dM_isFree_41 : decode cM_isFree 41 = .ok (.iconst 1, 1) := by decide +kernel
theorem dM_isFree_42 : decode cM_isFree 42 = .ok (.goto 4, 3) := by decide +kernel
theorem dM_isFree_45 : decode cM_isFree 45 = .ok (.iconst 0, 1) := by decide +kernel
theorem dM_isFree_46 : decode cM_isFree 46 = .ok (.istore_n 3, 1) := by decide +kernel
theorem dM_isFree_47 : decode cM_isFree 47 = .ok (.iinc 4 1, 3) := by decide +kernel
theorem dM_isFree_50 : decode cM_isFree 50 = .ok (.goto (-43), 3) := by decide +kernel
theorem dM_isFree_53 : decode cM_isFree 53 = .ok (.iload_n 3, 1) := by decide +kernel
theorem dM_isFree_54 : decode cM_isFree 54 = .ok (.ireturn, 1) := by decide +kernel
theorem dM_joinForm_0 : decode cM_joinForm 0 = .ok (.iconst 1, 1) := by decide +kernel
theorem dM_joinForm_1 : decode cM_joinForm 1 = .ok (.istore_n 1, 1) := by decide +kernel
theorem dM_joinForm_2 : decode cM_joinForm 2 = .ok (.iload_n 1, 1) := by decide +kernel
theorem dM_joinForm_3 : decode cM_joinForm 3 = .ok (.aload_n 0, 1) := by decide +kernel
theorem dM_joinForm_4 : decode cM_joinForm 4 = .ok (.getfield 84, 3) := by decide +kernel
theorem dM_joinForm_7 : decode cM_joinForm 7 = .ok (.if_icmp .ge 107, 3) := by decide +kernel
theorem dM_joinForm_10 : decode cM_joinForm 10 = .ok (.aload_n 0, 1) := by decide +kernel
theorem dM_joinForm_11 : decode cM_joinForm 11 = .ok (.iload_n 1, 1) := by decide +kernel
theorem dM_joinForm_12 : decode cM_joinForm 12 = .ok (.invokevirtual 114, 3) := by decide +kernel
theorem dM_joinForm_15 : decode cM_joinForm 15 = .ok (.istore_n 2, 1) := by decide +kernel
theorem dM_joinForm_16 : decode cM_joinForm 16 = .ok (.iload_n 2, 1) := by decide +kernel
theorem dM_joinForm_17 : decode cM_joinForm 17 = .ok (.ifCond .ge 7, 3) := by decide +kernel
theorem dM_joinForm_20 : decode cM_joinForm 20 = .ok (.iconst (-1), 1) := by decide +kernel
theorem dM_joinForm_21 : decode cM_joinForm 21 = .ok (.goto 19, 3) := by decide +kernel
theorem dM_joinForm_24 : decode cM_joinForm 24 = .ok (.aload_n 0, 1) := by decide +kernel
theorem dM_joinForm_25 : decode cM_joinForm 25 = .ok (.aload_n 0, 1) := by decide +kernel
theorem dM_joinForm_26 : decode cM_joinForm 26 = .ok (.getfield 35, 3) := by decide +kernel
theorem dM_joinForm_29 : decode cM_joinForm 29 = .ok (.iload_n 2, 1) := by decide +kernel
theorem dM_joinForm_30 : decode cM_joinForm 30 = .ok (.iaload, 1) := by decide +kernel
theorem dM_joinForm_31 : decode cM_joinForm 31 = .ok (.aload_n 0, 1) := by decide +kernel
theorem dM_joinForm_32 : decode cM_joinForm 32 = .ok (.getfield 35, 3) := by decide +kernel
theorem dM_joinForm_35 : decode cM_joinForm 35 = .ok (.iload_n 1, 1) := by decide +kernel
theorem dM_joinForm_36 : decode cM_joinForm 36 = .ok (.iaload, 1) := by decide +kernel
theorem dM_joinForm_37 : decode cM_joinForm 37 = .ok (.invokevirtual 117, 3) := by decide +kernel
theorem dM_joinForm_40 : decode cM_joinForm 40 = .ok (.istore_n 3, 1) := by decide +kernel
theorem dM_joinForm_41 : decode cM_joinForm 41 = .ok (.iload_n 3, 1) := by decide +kernel
theorem dM_joinForm_42 : decode cM_joinForm 42 = .ok (.ifCond .lt 66, 3) := by decide +kernel
theorem dM_joinForm_45 : decode cM_joinForm 45 = .ok (.aload_n 0, 1) := by decide +kernel
theorem dM_joinForm_46 : decode cM_joinForm 46 = .ok (.iload_n 2, 1) := by decide +kernel
theorem dM_joinForm_47 : decode cM_joinForm 47 = .ok (.iload_n 1, 1) := by decide +kernel
theorem dM_joinForm_48 : decode cM_joinForm 48 = .ok (.invokevirtual 120, 3) := by decide +kernel
theorem dM_joinForm_51 : decode cM_joinForm 51 = .ok (.ifCond .eq 57, 3) := by decide +kernel
theorem dM_joinForm_54 : decode cM_joinForm 54 = .ok (.aload_n 0, 1) := by decide +kernel
theorem dM_joinForm_55 : decode cM_joinForm 55 = .ok (.getfield 35, 3) := by decide +kernel
theorem dM_joinForm_58 : decode cM_joinForm 58 = .ok (.iload_n 2, 1) := by decide +kernel
theorem dM_joinForm_59 : decode cM_joinForm 59 = .ok (.iload_n 3, 1) := by decide +kernel
theorem dM_joinForm_60 : decode cM_joinForm 60 = .ok (.iastore, 1) := by decide +kernel
theorem dM_joinForm_61 : decode cM_joinForm 61 = .ok (.aload_n 0, 1) := by decide +kernel
theorem dM_joinForm_62 : decode cM_joinForm 62 = .ok (.dup, 1) := by decide +kernel
theorem dM_joinForm_63 : decode cM_joinForm 63 = .ok (.getfield 84, 3) := by decide +kernel
theorem dM_joinForm_66 : decode cM_joinForm 66 = .ok (.iconst 1, 1) := by decide +kernel
theorem dM_joinForm_67 : decode cM_joinForm 67 = .ok (.isub, 1) := by decide +kernel
theorem dM_joinForm_68 : decode cM_joinForm 68 = .ok (.putfield 84, 3) := by decide +kernel
theorem dM_joinForm_71 : decode cM_joinForm 71 = .ok (.iload_n 1, 1) := by decide +kernel
theorem dM_joinForm_72 : decode cM_joinForm 72 = .ok (.istore 4, 2) := by decide +kernel
theorem dM_joinForm_74 : decode cM_joinForm 74 = .ok (.iload 4, 2) := by decide +kernel
theorem dM_joinForm_76 : decode cM_joinForm 76 = .ok (.aload_n 0, 1) := by decide +kernel
theorem dM_joinForm_77 : decode cM_joinForm 77 = .ok (.getfield 84, 3) := by decide +kernel
theorem dM_joinForm_80 : decode cM_joinForm 80 = .ok (.if_icmp .ge 25, 3) := by decide +kernel
theorem dM_joinForm_83 : decode cM_joinForm 83 = .ok (.aload_n 0, 1) := by decide +kernel
theorem dM_joinForm_84 : decode cM_joinForm 84 = .ok (.getfield 35, 3) := by decide +kernel
theorem dM_joinForm_87 : decode cM_joinForm 87 = .ok (.iload 4, 2) := by decide +kernel
theorem dM_joinForm_89 : decode cM_joinForm 89 = .ok (.aload_n 0, 1) := by decide +kernel
theorem dM_joinForm_90 : decode cM_joinForm 90 = .ok (.getfield 35, 3) := by decide +kernel
theorem dM_joinForm_93 : decode cM_joinForm 93 = .ok (.iload 4, 2) := by decide +kernel
theorem dM_joinForm_95 : decode cM_joinForm 95 = .ok (.iconst 1, 1) := by decide +kernel
theorem dM_joinForm_96 : decode cM_joinForm 96 = .ok (.iadd, 1) := by decide +kernel
theorem dM_joinForm_97 : decode cM_joinForm 97 = .ok (.iaload, 1) := by decide +kernel
theorem dM_joinForm_98 : decode cM_joinForm 98 = .ok (.iastore, 1) := by decide +kernel
theorem dM_joinForm_99 : decode cM_joinForm 99 = .ok (.iinc 4 1, 3) := by decide +kernel
theorem dM_joinForm_102 : decode cM_joinForm 102 = .ok (.goto (-28), 3) := by decide +kernel
theorem dM_joinForm_105 : decode cM_joinForm 105 = .ok (.goto 6, 3) := by decide +kernel
theorem dM_joinForm_108 : decode cM_joinForm 108 = .ok (.iinc 1 1, 3) := by decide +kernel
theorem dM_joinForm_111 : decode cM_joinForm 111 = .ok (.goto (-109), 3) := by decide +kernel
theorem dM_joinForm_114 : decode cM_joinForm 114 = .ok (.return_, 1) := by decide +kernel
theorem dM_bring_0 : decode cM_bring 0 = .ok (.aload_n 0, 1) := by decide +kernel
theorem dM_bring_1 : decode cM_bring 1 = .ok (.invokevirtual 123, 3) := by decide +kernel
theorem dM_bring_4 : decode cM_bring 4 = .ok (.iload_n 1, 1) := by decide +kernel
theorem dM_bring_5 : decode cM_bring 5 = .ok (.ifCond .eq 7, 3) := by decide +kernel
theorem dM_bring_8 : decode cM_bring 8 = .ok (.aload_n 0, 1) := by decide +kernel
theorem dM_bring_9 : decode cM_bring 9 = .ok (.invokevirtual 126, 3) := by decide +kernel
theorem dM_bring_12 : decode cM_bring 12 = .ok (.aload_n 0, 1) := by decide +kernel
theorem dM_bring_13 : decode cM_bring 13 = .ok (.aload_n 0, 1) := by decide +kernel
theorem dM_bring_14 : decode cM_bring 14 = .ok (.getfield 84, 3) := by decide +kernel
theorem dM_bring_17 : decode cM_bring 17 = .ok (.bipush 40, 2) := by decide +kernel
theorem dM_bring_19 : decode cM_bring 19 = .ok (.if_icmp .le 7, 3) := by decide +kernel
theorem dM_bring_22 : decode cM_bring 22 = .ok (.iconst 1, 1) := by decide +kernel
theorem dM_bring_23 : decode cM_bring 23 = .ok (.goto 4, 3) := by decide +kernel
theorem dM_bring_26 : decode cM_bring 26 = .ok (.iconst 0, 1) := by decide +kernel
theorem dM_bring_27 : decode cM_bring 27 = .ok (.putfield 65, 3) := by decide +kernel
theorem dM_bring_30 : decode cM_bring 30 = .ok (.aload_n 0, 1) := by decide +kernel
theorem dM_bring_31 : decode cM_bring 31 = .ok (.getfield 65, 3) := by decide +kernel
theorem dM_bring_34 : decode cM_bring 34 = .ok (.ifCond .eq 5, 3) := by decide +kernel
theorem dM_bring_37 : decode cM_bring 37 = .ok (.iconst 0, 1) := by decide +kernel
theorem dM_bring_38 : decode cM_bring 38 = .ok (.ireturn, 1) := by decide +kernel
theorem dM_bring_39 : decode cM_bring 39 = .ok (.aload_n 0, 1) := by decide +kernel
theorem dM_bring_40 : decode cM_bring 40 = .ok (.aload_n 0, 1) := by decide +kernel
theorem dM_bring_41 : decode cM_bring 41 = .ok (.getfield 84, 3) := by decide +kernel
theorem dM_bring_44 : decode cM_bring 44 = .ok (.putfield 77, 3) := by decide +kernel
theorem dM_bring_47 : decode cM_bring 47 = .ok (.iconst 0, 1) := by decide +kernel
theorem dM_bring_48 : decode cM_bring 48 = .ok (.istore_n 2, 1) := by decide +kernel
theorem dM_bring_49 : decode cM_bring 49 = .ok (.iload_n 2, 1) := by decide +kernel
theorem dM_bring_50 : decode cM_bring 50 = .ok (.aload_n 0, 1) := by decide +kernel
theorem dM_bring_51 : decode cM_bring 51 = .ok (.getfield 77, 3) := by decide +kernel
theorem dM_bring_54 : decode cM_bring 54 = .ok (.if_icmp .ge 21, 3) := by decide +kernel
theorem dM_bring_57 : decode cM_bring 57 = .ok (.aload_n 0, 1) := by decide +kernel
theorem dM_bring_58 : decode cM_bring 58 = .ok (.getfield 26, 3) := by decide +kernel
theorem dM_bring_61 : decode cM_bring 61 = .ok (.iload_n 2, 1) := by decide +kernel
theorem dM_bring_62 : decode cM_bring 62 = .ok (.aload_n 0, 1) := by decide +kernel
theorem dM_bring_63 : decode cM_bring 63 = .ok (.getfield 35, 3) := by decide +kernel
theorem dM_bring_66 : decode cM_bring 66 = .ok (.iload_n 2, 1) := by decide +kernel
theorem dM_bring_67 : decode cM_bring 67 = .ok (.iaload, 1) := by decide +kernel
theorem dM_bring_68 : decode cM_bring 68 = .ok (.iastore, 1) := by decide +kernel
theorem dM_bring_69 : decode cM_bring 69 = .ok (.iinc 2 1, 3) := by decide +kernel
theorem dM_bring_72 : decode cM_bring 72 = .ok (.goto (-23), 3) := by decide +kernel
theorem dM_bring_75 : decode cM_bring 75 = .ok (.aload_n 0, 1) := by decide +kernel
theorem dM_bring_76 : decode cM_bring 76 = .ok (.getfield 77, 3) := by decide +kernel
theorem dM_bring_79 : decode cM_bring 79 = .ok (.ireturn, 1) := by decide +kernel
theorem dM_pictureBefore_0 : decode cM_pictureBefore 0 = .ok (.iload_n 1, 1) := by decide +kernel
theorem dM_pictureBefore_1 : decode cM_pictureBefore 1 = .ok (.iconst 1, 1) := by decide +kernel
theorem dM_pictureBefore_2 : decode cM_pictureBefore 2 = .ok (.isub, 1) := by decide +kernel
theorem dM_pictureBefore_3 : decode cM_pictureBefore 3 = .ok (.istore_n 2, 1) := by decide +kernel
theorem dM_pictureBefore_4 : decode cM_pictureBefore 4 = .ok (.iload_n 2, 1) := by decide +kernel
theorem dM_pictureBefore_5 : decode cM_pictureBefore 5 = .ok (.ifCond .lt 23, 3) := by decide +kernel
theorem dM_pictureBefore_8 : decode cM_pictureBefore 8 = .ok (.aload_n 0, 1) := by decide +kernel
theorem dM_pictureBefore_9 : decode cM_pictureBefore 9 = .ok (.aload_n 0, 1) := by decide +kernel
theorem dM_pictureBefore_10 : decode cM_pictureBefore 10 = .ok (.getfield 26, 3) := by decide +kernel
theorem dM_pictureBefore_13 : decode cM_pictureBefore 13 = .ok (.iload_n 2, 1) := by decide +kernel
theorem dM_pictureBefore_14 : decode cM_pictureBefore 14 = .ok (.iaload, 1) := by decide +kernel
theorem dM_pictureBefore_15 : decode cM_pictureBefore 15 = .ok (.invokevirtual 129, 3) := by decide +kernel
theorem dM_pictureBefore_18 : decode cM_pictureBefore 18 = .ok (.iconst 4, 1) := by decide +kernel
theorem dM_pictureBefore_19 : decode cM_pictureBefore 19 = .ok (.if_icmp .ne 9, 3) := by decide +kernel
theorem dM_pictureBefore_22 : decode cM_pictureBefore 22 = .ok (.iinc 2 (-1), 3) := by decide +kernel
theorem dM_pictureBefore_25 : decode cM_pictureBefore 25 = .ok (.goto (-21), 3) := by decide +kernel
theorem dM_pictureBefore_28 : decode cM_pictureBefore 28 = .ok (.iload_n 2, 1) := by decide +kernel
theorem dM_pictureBefore_29 : decode cM_pictureBefore 29 = .ok (.ifCond .lt 22, 3) := by decide +kernel
theorem dM_pictureBefore_32 : decode cM_pictureBefore 32 = .ok (.aload_n 0, 1) := by decide +kernel
theorem dM_pictureBefore_33 : decode cM_pictureBefore 33 = .ok (.aload_n 0, 1) := by decide +kernel
theorem dM_pictureBefore_34 : decode cM_pictureBefore 34 = .ok (.getfield 26, 3) := by decide +kernel
theorem dM_pictureBefore_37 : decode cM_pictureBefore 37 = .ok (.iload_n 2, 1) := by decide +kernel
theorem dM_pictureBefore_38 : decode cM_pictureBefore 38 = .ok (.iaload, 1) := by decide +kernel
theorem dM_pictureBefore_39 : decode cM_pictureBefore 39 = .ok (.invokevirtual 129, 3) := by decide +kernel
theorem dM_pictureBefore_42 : decode cM_pictureBefore 42 = .ok (.bipush 9, 2) := by decide +kernel
theorem dM_pictureBefore_44 : decode cM_pictureBefore 44 = .ok (.if_icmp .ne 7, 3) := by decide +kernel
theorem dM_pictureBefore_47 : decode cM_pictureBefore 47 = .ok (.iconst 1, 1) := by decide +kernel
theorem dM_pictureBefore_48 : decode cM_pictureBefore 48 = .ok (.goto 4, 3) := by decide +kernel
theorem dM_pictureBefore_51 : decode cM_pictureBefore 51 = .ok (.iconst 0, 1) := by decide +kernel
theorem dM_pictureBefore_52 : decode cM_pictureBefore 52 = .ok (.ireturn, 1) := by decide +kernel
theorem dM_oddRegions_0 : decode cM_oddRegions 0 = .ok (.iconst 0, 1) := by decide +kernel
theorem dM_oddRegions_1 : decode cM_oddRegions 1 = .ok (.istore_n 2, 1) := by decide +kernel
theorem dM_oddRegions_2 : decode cM_oddRegions 2 = .ok (.iload_n 1, 1) := by decide +kernel
theorem dM_oddRegions_3 : decode cM_oddRegions 3 = .ok (.iload_n 2, 1) := by decide +kernel
theorem dM_oddRegions_4 : decode cM_oddRegions 4 = .ok (.isub, 1) := by decide +kernel
theorem dM_oddRegions_5 : decode cM_oddRegions 5 = .ok (.ifCond .lt 26, 3) := by decide +kernel
theorem dM_oddRegions_8 : decode cM_oddRegions 8 = .ok (.aload_n 0, 1) := by decide +kernel
theorem dM_oddRegions_9 : decode cM_oddRegions 9 = .ok (.aload_n 0, 1) := by decide +kernel
theorem dM_oddRegions_10 : decode cM_oddRegions 10 = .ok (.getfield 26, 3) := by decide +kernel
theorem dM_oddRegions_13 : decode cM_oddRegions 13 = .ok (.iload_n 1, 1) := by decide +kernel
theorem dM_oddRegions_14 : decode cM_oddRegions 14 = .ok (.iload_n 2, 1) := by decide +kernel
theorem dM_oddRegions_15 : decode cM_oddRegions 15 = .ok (.isub, 1) := by decide +kernel
theorem dM_oddRegions_16 : decode cM_oddRegions 16 = .ok (.iaload, 1) := by decide +kernel
theorem dM_oddRegions_17 : decode cM_oddRegions 17 = .ok (.invokevirtual 129, 3) := by decide +kernel
theorem dM_oddRegions_20 : decode cM_oddRegions 20 = .ok (.bipush 6, 2) := by decide +kernel
theorem dM_oddRegions_22 : decode cM_oddRegions 22 = .ok (.if_icmp .ne 9, 3) := by decide +kernel
theorem dM_oddRegions_25 : decode cM_oddRegions 25 = .ok (.iinc 2 1, 3) := by decide +kernel
theorem dM_oddRegions_28 : decode cM_oddRegions 28 = .ok (.goto (-26), 3) := by decide +kernel
theorem dM_oddRegions_31 : decode cM_oddRegions 31 = .ok (.iload_n 2, 1) := by decide +kernel
theorem dM_oddRegions_32 : decode cM_oddRegions 32 = .ok (.iconst 2, 1) := by decide +kernel
theorem dM_oddRegions_33 : decode cM_oddRegions 33 = .ok (.irem, 1) := by decide +kernel
theorem dM_oddRegions_34 : decode cM_oddRegions 34 = .ok (.iconst 1, 1) := by decide +kernel
theorem dM_oddRegions_35 : decode cM_oddRegions 35 = .ok (.if_icmp .ne 7, 3) := by decide +kernel
theorem dM_oddRegions_38 : decode cM_oddRegions 38 = .ok (.iconst 1, 1) := by decide +kernel
theorem dM_oddRegions_39 : decode cM_oddRegions 39 = .ok (.goto 4, 3) := by decide +kernel
theorem dM_oddRegions_42 : decode cM_oddRegions 42 = .ok (.iconst 0, 1) := by decide +kernel
theorem dM_oddRegions_43 : decode cM_oddRegions 43 = .ok (.ireturn, 1) := by decide +kernel
theorem dM_syllabic_0 : decode cM_syllabic 0 = .ok (.aload_n 0, 1) := by decide +kernel
theorem dM_syllabic_1 : decode cM_syllabic 1 = .ok (.iload_n 1, 1) := by decide +kernel
theorem dM_syllabic_2 : decode cM_syllabic 2 = .ok (.invokevirtual 101, 3) := by decide +kernel
theorem dM_syllabic_5 : decode cM_syllabic 5 = .ok (.ifCond .eq 25, 3) := by decide +kernel
theorem dM_syllabic_8 : decode cM_syllabic 8 = .ok (.aload_n 0, 1) := by decide +kernel
theorem dM_syllabic_9 : decode cM_syllabic 9 = .ok (.iload_n 2, 1) := by decide +kernel
theorem dM_syllabic_10 : decode cM_syllabic 10 = .ok (.invokevirtual 101, 3) := by decide +kernel
theorem dM_syllabic_13 : decode cM_syllabic 13 = .ok (.ifCond .ne 73, 3) := by decide +kernel
theorem dM_syllabic_16 : decode cM_syllabic 16 = .ok (.aload_n 0, 1) := by decide +kernel
theorem dM_syllabic_17 : decode cM_syllabic 17 = .ok (.iload_n 2, 1) := by decide +kernel
theorem dM_syllabic_18 : decode cM_syllabic 18 = .ok (.invokevirtual 105, 3) := by decide +kernel
theorem dM_syllabic_21 : decode cM_syllabic 21 = .ok (.ifCond .ne 65, 3) := by decide +kernel
theorem dM_syllabic_24 : decode cM_syllabic 24 = .ok (.iload_n 2, 1) := by decide +kernel
theorem dM_syllabic_25 : decode cM_syllabic 25 = .ok (.bipush 47, 2) := by decide +kernel
theorem dM_syllabic_27 : decode cM_syllabic 27 = .ok (.if_icmp .gt 59, 3) := by decide +kernel
theorem dM_syllabic_30 : decode cM_syllabic 30 = .ok (.aload_n 0, 1) := by decide +kernel
theorem dM_syllabic_31 : decode cM_syllabic 31 = .ok (.iload_n 1, 1) := by decide +kernel
theorem dM_syllabic_32 : decode cM_syllabic 32 = .ok (.invokevirtual 105, 3) := by decide +kernel
theorem dM_syllabic_35 : decode cM_syllabic 35 = .ok (.ifCond .ne 11, 3) := by decide +kernel
theorem dM_syllabic_38 : decode cM_syllabic 38 = .ok (.aload_n 0, 1) := by decide +kernel
theorem dM_syllabic_39 : decode cM_syllabic 39 = .ok (.iload_n 1, 1) := by decide +kernel
theorem dM_syllabic_40 : decode cM_syllabic 40 = .ok (.invokevirtual 108, 3) := by decide +kernel
theorem dM_syllabic_43 : decode cM_syllabic 43 = .ok (.ifCond .eq 19, 3) := by decide +kernel
theorem dM_syllabic_46 : decode cM_syllabic 46 = .ok (.aload_n 0, 1) := by decide +kernel
theorem dM_syllabic_47 : decode cM_syllabic 47 = .ok (.iload_n 2, 1) := by decide +kernel
theorem dM_syllabic_48 : decode cM_syllabic 48 = .ok (.invokevirtual 105, 3) := by decide +kernel
theorem dM_syllabic_51 : decode cM_syllabic 51 = .ok (.ifCond .ne 35, 3) := by decide +kernel
theorem dM_syllabic_54 : decode cM_syllabic 54 = .ok (.aload_n 0, 1) := by decide +kernel
theorem dM_syllabic_55 : decode cM_syllabic 55 = .ok (.iload_n 2, 1) := by decide +kernel
theorem dM_syllabic_56 : decode cM_syllabic 56 = .ok (.invokevirtual 111, 3) := by decide +kernel
theorem dM_syllabic_59 : decode cM_syllabic 59 = .ok (.ifCond .ne 27, 3) := by decide +kernel
theorem dM_syllabic_62 : decode cM_syllabic 62 = .ok (.aload_n 0, 1) := by decide +kernel
theorem dM_syllabic_63 : decode cM_syllabic 63 = .ok (.iload_n 1, 1) := by decide +kernel
theorem dM_syllabic_64 : decode cM_syllabic 64 = .ok (.invokevirtual 111, 3) := by decide +kernel
theorem dM_syllabic_67 : decode cM_syllabic 67 = .ok (.ifCond .ne 11, 3) := by decide +kernel
theorem dM_syllabic_70 : decode cM_syllabic 70 = .ok (.aload_n 0, 1) := by decide +kernel
theorem dM_syllabic_71 : decode cM_syllabic 71 = .ok (.iload_n 1, 1) := by decide +kernel
theorem dM_syllabic_72 : decode cM_syllabic 72 = .ok (.invokevirtual 132, 3) := by decide +kernel
theorem dM_syllabic_75 : decode cM_syllabic 75 = .ok (.ifCond .eq 15, 3) := by decide +kernel
theorem dM_syllabic_78 : decode cM_syllabic 78 = .ok (.aload_n 0, 1) := by decide +kernel
theorem dM_syllabic_79 : decode cM_syllabic 79 = .ok (.iload_n 2, 1) := by decide +kernel
theorem dM_syllabic_80 : decode cM_syllabic 80 = .ok (.invokevirtual 111, 3) := by decide +kernel
theorem dM_syllabic_83 : decode cM_syllabic 83 = .ok (.ifCond .eq 7, 3) := by decide +kernel
theorem dM_syllabic_86 : decode cM_syllabic 86 = .ok (.iconst 1, 1) := by decide +kernel
theorem dM_syllabic_87 : decode cM_syllabic 87 = .ok (.goto 4, 3) := by decide +kernel
theorem dM_syllabic_90 : decode cM_syllabic 90 = .ok (.iconst 0, 1) := by decide +kernel
theorem dM_syllabic_91 : decode cM_syllabic 91 = .ok (.ireturn, 1) := by decide +kernel
theorem dM_ends_0 : decode cM_ends 0 = .ok (.aload_n 0, 1) := by decide +kernel
theorem dM_ends_1 : decode cM_ends 1 = .ok (.aload_n 0, 1) := by decide +kernel
theorem dM_ends_2 : decode cM_ends 2 = .ok (.getfield 26, 3) := by decide +kernel
theorem dM_ends_5 : decode cM_ends 5 = .ok (.iload_n 1, 1) := by decide +kernel
theorem dM_ends_6 : decode cM_ends 6 = .ok (.iconst 1, 1) := by decide +kernel
theorem dM_ends_7 : decode cM_ends 7 = .ok (.isub, 1) := by decide +kernel
theorem dM_ends_8 : decode cM_ends 8 = .ok (.iaload, 1) := by decide +kernel
theorem dM_ends_9 : decode cM_ends 9 = .ok (.invokevirtual 129, 3) := by decide +kernel
theorem dM_ends_12 : decode cM_ends 12 = .ok (.istore_n 2, 1) := by decide +kernel
theorem dM_ends_13 : decode cM_ends 13 = .ok (.aload_n 0, 1) := by decide +kernel
theorem dM_ends_14 : decode cM_ends 14 = .ok (.aload_n 0, 1) := by decide +kernel
theorem dM_ends_15 : decode cM_ends 15 = .ok (.getfield 26, 3) := by decide +kernel
theorem dM_ends_18 : decode cM_ends 18 = .ok (.iload_n 1, 1) := by decide +kernel
theorem dM_ends_19 : decode cM_ends 19 = .ok (.iaload, 1) := by decide +kernel
theorem dM_ends_20 : decode cM_ends 20 = .ok (.invokevirtual 129, 3) := by decide +kernel
theorem dM_ends_23 : decode cM_ends 23 = .ok (.istore_n 3, 1) := by decide +kernel
theorem dM_ends_24 : decode cM_ends 24 = .ok (.iload_n 2, 1) := by decide +kernel
theorem dM_ends_25 : decode cM_ends 25 = .ok (.iconst 1, 1) := by decide +kernel
theorem dM_ends_26 : decode cM_ends 26 = .ok (.if_icmp .ne 10, 3) := by decide +kernel
theorem dM_ends_29 : decode cM_ends 29 = .ok (.iload_n 3, 1) := by decide +kernel
theorem dM_ends_30 : decode cM_ends 30 = .ok (.iconst 2, 1) := by decide +kernel
theorem dM_ends_31 : decode cM_ends 31 = .ok (.if_icmp .ne 5, 3) := by decide +kernel
theorem dM_ends_34 : decode cM_ends 34 = .ok (.iconst 0, 1) := by decide +kernel
theorem dM_ends_35 : decode cM_ends 35 = .ok (.ireturn, 1) := by decide +kernel
theorem dM_ends_36 : decode cM_ends 36 = .ok (.iload_n 2, 1) := by decide +kernel
theorem dM_ends_37 : decode cM_ends 37 = .ok (.ifCond .le 8, 3) := by decide +kernel
theorem dM_ends_40 : decode cM_ends 40 = .ok (.iload_n 2, 1) := by decide +kernel
theorem dM_ends_41 : decode cM_ends 41 = .ok (.iconst 4, 1) := by decide +kernel
theorem dM_ends_42 : decode cM_ends 42 = .ok (.if_icmp .lt 12, 3) := by decide +kernel
theorem dM_ends_45 : decode cM_ends 45 = .ok (.iload_n 3, 1) := by decide +kernel
theorem dM_ends_46 : decode cM_ends 46 = .ok (.ifCond .le 10, 3) := by decide +kernel
theorem dM_ends_49 : decode cM_ends 49 = .ok (.iload_n 3, 1) := by decide +kernel
theorem dM_ends_50 : decode cM_ends 50 = .ok (.iconst 4, 1) := by decide +kernel
theorem dM_ends_51 : decode cM_ends 51 = .ok (.if_icmp .ge 5, 3) := by decide +kernel
theorem dM_ends_54 : decode cM_ends 54 = .ok (.iconst 1, 1) := by decide +kernel
theorem dM_ends_55 : decode cM_ends 55 = .ok (.ireturn, 1) := by decide +kernel
theorem dM_ends_56 : decode cM_ends 56 = .ok (.aload_n 0, 1) := by decide +kernel
theorem dM_ends_57 : decode cM_ends 57 = .ok (.aload_n 0, 1) := by decide +kernel
theorem dM_ends_58 : decode cM_ends 58 = .ok (.getfield 26, 3) := by decide +kernel
theorem dM_ends_61 : decode cM_ends 61 = .ok (.iload_n 1, 1) := by decide +kernel
theorem dM_ends_62 : decode cM_ends 62 = .ok (.iconst 1, 1) := by decide +kernel
theorem dM_ends_63 : decode cM_ends 63 = .ok (.isub, 1) := by decide +kernel
theorem dM_ends_64 : decode cM_ends 64 = .ok (.iaload, 1) := by decide +kernel
theorem dM_ends_65 : decode cM_ends 65 = .ok (.aload_n 0, 1) := by decide +kernel
theorem dM_ends_66 : decode cM_ends 66 = .ok (.getfield 26, 3) := by decide +kernel
theorem dM_ends_69 : decode cM_ends 69 = .ok (.iload_n 1, 1) := by decide +kernel
theorem dM_ends_70 : decode cM_ends 70 = .ok (.iaload, 1) := by decide +kernel
theorem dM_ends_71 : decode cM_ends 71 = .ok (.invokevirtual 135, 3) := by decide +kernel
theorem dM_ends_74 : decode cM_ends 74 = .ok (.ifCond .ne 68, 3) := by decide +kernel
theorem dM_ends_77 : decode cM_ends 77 = .ok (.iload_n 3, 1) := by decide +kernel
theorem dM_ends_78 : decode cM_ends 78 = .ok (.iconst 4, 1) := by decide +kernel
theorem dM_ends_79 : decode cM_ends 79 = .ok (.if_icmp .eq 63, 3) := by decide +kernel
theorem dM_ends_82 : decode cM_ends 82 = .ok (.iload_n 3, 1) := by decide +kernel
theorem dM_ends_83 : decode cM_ends 83 = .ok (.iconst 5, 1) := by decide +kernel
theorem dM_ends_84 : decode cM_ends 84 = .ok (.if_icmp .eq 58, 3) := by decide +kernel
theorem dM_ends_87 : decode cM_ends 87 = .ok (.iload_n 3, 1) := by decide +kernel
theorem dM_ends_88 : decode cM_ends 88 = .ok (.bipush 8, 2) := by decide +kernel
theorem dM_ends_90 : decode cM_ends 90 = .ok (.if_icmp .eq 52, 3) := by decide +kernel
theorem dM_ends_93 : decode cM_ends 93 = .ok (.iload_n 2, 1) := by decide +kernel
theorem dM_ends_94 : decode cM_ends 94 = .ok (.bipush 7, 2) := by decide +kernel
theorem dM_ends_96 : decode cM_ends 96 = .ok (.if_icmp .eq 46, 3) := by decide +kernel
theorem dM_ends_99 : decode cM_ends 99 = .ok (.iload_n 2, 1) := by decide +kernel
theorem dM_ends_100 : decode cM_ends 100 = .ok (.iconst 5, 1) := by decide +kernel
theorem dM_ends_101 : decode cM_ends 101 = .ok (.if_icmp .ne 19, 3) := by decide +kernel
theorem dM_ends_104 : decode cM_ends 104 = .ok (.iload_n 3, 1) := by decide +kernel
theorem dM_ends_105 : decode cM_ends 105 = .ok (.bipush 9, 2) := by decide +kernel
theorem dM_ends_107 : decode cM_ends 107 = .ok (.if_icmp .ne 13, 3) := by decide +kernel
theorem dM_ends_110 : decode cM_ends 110 = .ok (.aload_n 0, 1) := by decide +kernel
theorem dM_ends_111 : decode cM_ends 111 = .ok (.iload_n 1, 1) := by decide +kernel
theorem dM_ends_112 : decode cM_ends 112 = .ok (.iconst 1, 1) := by decide +kernel
theorem dM_ends_113 : decode cM_ends 113 = .ok (.isub, 1) := by decide +kernel
theorem dM_ends_114 : decode cM_ends 114 = .ok (.invokevirtual 138, 3) := by decide +kernel
theorem dM_ends_117 : decode cM_ends 117 = .ok (.ifCond .ne 25, 3) := by decide +kernel
theorem dM_ends_120 : decode cM_ends 120 = .ok (.iload_n 2, 1) := by decide +kernel
theorem dM_ends_121 : decode cM_ends 121 = .ok (.bipush 6, 2) := by decide +kernel
theorem dM_ends_123 : decode cM_ends 123 = .ok (.if_icmp .ne 23, 3) := by decide +kernel
theorem dM_ends_126 : decode cM_ends 126 = .ok (.iload_n 3, 1) := by decide +kernel
theorem dM_ends_127 : decode cM_ends 127 = .ok (.bipush 6, 2) := by decide +kernel
theorem dM_ends_129 : decode cM_ends 129 = .ok (.if_icmp .ne 17, 3) := by decide +kernel
theorem dM_ends_132 : decode cM_ends 132 = .ok (.aload_n 0, 1) := by decide +kernel
theorem dM_ends_133 : decode cM_ends 133 = .ok (.iload_n 1, 1) := by decide +kernel
theorem dM_ends_134 : decode cM_ends 134 = .ok (.iconst 1, 1) := by decide +kernel
theorem dM_ends_135 : decode cM_ends 135 = .ok (.isub, 1) := by decide +kernel
theorem dM_ends_136 : decode cM_ends 136 = .ok (.invokevirtual 141, 3) := by decide +kernel
theorem dM_ends_139 : decode cM_ends 139 = .ok (.ifCond .eq 7, 3) := by decide +kernel
theorem dM_ends_142 : decode cM_ends 142 = .ok (.iconst 1, 1) := by decide +kernel
theorem dM_ends_143 : decode cM_ends 143 = .ok (.goto 4, 3) := by decide +kernel
theorem dM_ends_146 : decode cM_ends 146 = .ok (.iconst 0, 1) := by decide +kernel
theorem dM_ends_147 : decode cM_ends 147 = .ok (.istore 4, 2) := by decide +kernel
theorem dM_ends_149 : decode cM_ends 149 = .ok (.iload 4, 2) := by decide +kernel
theorem dM_ends_151 : decode cM_ends 151 = .ok (.ifCond .ne 7, 3) := by decide +kernel
theorem dM_ends_154 : decode cM_ends 154 = .ok (.iconst 1, 1) := by decide +kernel
theorem dM_ends_155 : decode cM_ends 155 = .ok (.goto 4, 3) := by decide +kernel
theorem dM_ends_158 : decode cM_ends 158 = .ok (.iconst 0, 1) := by decide +kernel
theorem dM_ends_159 : decode cM_ends 159 = .ok (.ireturn, 1) := by decide +kernel
theorem dM_cluster_0 : decode cM_cluster 0 = .ok (.aload_n 0, 1) := by decide +kernel
theorem dM_cluster_1 : decode cM_cluster 1 = .ok (.aload_n 0, 1) := by decide +kernel
theorem dM_cluster_2 : decode cM_cluster 2 = .ok (.iload_n 1, 1) := by decide +kernel
theorem dM_cluster_3 : decode cM_cluster 3 = .ok (.aload_n 0, 1) := by decide +kernel
theorem dM_cluster_4 : decode cM_cluster 4 = .ok (.getfield 77, 3) := by decide +kernel
theorem dM_cluster_7 : decode cM_cluster 7 = .ok (.iconst 1, 1) := by decide +kernel
theorem dM_cluster_8 : decode cM_cluster 8 = .ok (.iadd, 1) := by decide +kernel
theorem dM_cluster_9 : decode cM_cluster 9 = .ok (.invokevirtual 80, 3) := by decide +kernel
theorem dM_cluster_12 : decode cM_cluster 12 = .ok (.ifCond .eq 7, 3) := by decide +kernel
theorem dM_cluster_15 : decode cM_cluster 15 = .ok (.iconst 1, 1) := by decide +kernel
theorem dM_cluster_16 : decode cM_cluster 16 = .ok (.goto 4, 3) := by decide +kernel
theorem dM_cluster_19 : decode cM_cluster 19 = .ok (.iconst 0, 1) := by decide +kernel
theorem dM_cluster_20 : decode cM_cluster 20 = .ok (.putfield 65, 3) := by decide +kernel
theorem dM_cluster_23 : decode cM_cluster 23 = .ok (.aload_n 0, 1) := by decide +kernel
theorem dM_cluster_24 : decode cM_cluster 24 = .ok (.getfield 65, 3) := by decide +kernel
theorem dM_cluster_27 : decode cM_cluster 27 = .ok (.ifCond .ne 27, 3) := by decide +kernel
theorem dM_cluster_30 : decode cM_cluster 30 = .ok (.iload_n 1, 1) := by decide +kernel
theorem dM_cluster_31 : decode cM_cluster 31 = .ok (.ifCond .eq 19, 3) := by decide +kernel
theorem dM_cluster_34 : decode cM_cluster 34 = .ok (.iload_n 1, 1) := by decide +kernel
theorem dM_cluster_35 : decode cM_cluster 35 = .ok (.aload_n 0, 1) := by decide +kernel
theorem dM_cluster_36 : decode cM_cluster 36 = .ok (.getfield 77, 3) := by decide +kernel
theorem dM_cluster_39 : decode cM_cluster 39 = .ok (.if_icmp .eq 11, 3) := by decide +kernel
theorem dM_cluster_42 : decode cM_cluster 42 = .ok (.aload_n 0, 1) := by decide +kernel
theorem dM_cluster_43 : decode cM_cluster 43 = .ok (.iload_n 1, 1) := by decide +kernel
theorem dM_cluster_44 : decode cM_cluster 44 = .ok (.invokevirtual 144, 3) := by decide +kernel
theorem dM_cluster_47 : decode cM_cluster 47 = .ok (.ifCond .eq 7, 3) := by decide +kernel
theorem dM_cluster_50 : decode cM_cluster 50 = .ok (.iconst 1, 1) := by decide +kernel
theorem dM_cluster_51 : decode cM_cluster 51 = .ok (.goto 4, 3) := by decide +kernel
theorem dM_cluster_54 : decode cM_cluster 54 = .ok (.iconst 0, 1) := by decide +kernel
theorem dM_cluster_55 : decode cM_cluster 55 = .ok (.ireturn, 1) := by decide +kernel
theorem dM_clusters_0 : decode cM_clusters 0 = .ok (.aload_n 0, 1) := by decide +kernel
theorem dM_clusters_1 : decode cM_clusters 1 = .ok (.iconst 0, 1) := by decide +kernel
theorem dM_clusters_2 : decode cM_clusters 2 = .ok (.putfield 65, 3) := by decide +kernel
theorem dM_clusters_5 : decode cM_clusters 5 = .ok (.aload_n 0, 1) := by decide +kernel
theorem dM_clusters_6 : decode cM_clusters 6 = .ok (.getfield 77, 3) := by decide +kernel
theorem dM_clusters_9 : decode cM_clusters 9 = .ok (.ifCond .le 7, 3) := by decide +kernel
theorem dM_clusters_12 : decode cM_clusters 12 = .ok (.iconst 1, 1) := by decide +kernel
theorem dM_clusters_13 : decode cM_clusters 13 = .ok (.goto 4, 3) := by decide +kernel
theorem dM_clusters_16 : decode cM_clusters 16 = .ok (.iconst 0, 1) := by decide +kernel
theorem dM_clusters_17 : decode cM_clusters 17 = .ok (.istore_n 1, 1) := by decide +kernel
theorem dM_clusters_18 : decode cM_clusters 18 = .ok (.iconst 1, 1) := by decide +kernel
theorem dM_clusters_19 : decode cM_clusters 19 = .ok (.istore_n 2, 1) := by decide +kernel
theorem dM_clusters_20 : decode cM_clusters 20 = .ok (.iload_n 2, 1) := by decide +kernel
theorem dM_clusters_21 : decode cM_clusters 21 = .ok (.aload_n 0, 1) := by decide +kernel
theorem dM_clusters_22 : decode cM_clusters 22 = .ok (.getfield 77, 3) := by decide +kernel
theorem dM_clusters_25 : decode cM_clusters 25 = .ok (.if_icmp .ge 25, 3) := by decide +kernel
theorem dM_clusters_28 : decode cM_clusters 28 = .ok (.iload_n 1, 1) := by decide +kernel
theorem dM_clusters_29 : decode cM_clusters 29 = .ok (.aload_n 0, 1) := by decide +kernel
theorem dM_clusters_30 : decode cM_clusters 30 = .ok (.iload_n 2, 1) := by decide +kernel
theorem dM_clusters_31 : decode cM_clusters 31 = .ok (.invokevirtual 144, 3) := by decide +kernel
theorem dM_clusters_34 : decode cM_clusters 34 = .ok (.ifCond .eq 7, 3) := by decide +kernel
theorem dM_clusters_37 : decode cM_clusters 37 = .ok (.iconst 1, 1) := by decide +kernel
theorem dM_clusters_38 : decode cM_clusters 38 = .ok (.goto 4, 3) := by decide +kernel
theorem dM_clusters_41 : decode cM_clusters 41 = .ok (.iconst 0, 1) := by decide +kernel
theorem dM_clusters_42 : decode cM_clusters 42 = .ok (.iadd, 1) := by decide +kernel
theorem dM_clusters_43 : decode cM_clusters 43 = .ok (.istore_n 1, 1) := by decide +kernel
theorem dM_clusters_44 : decode cM_clusters 44 = .ok (.iinc 2 1, 3) := by decide +kernel
theorem dM_clusters_47 : decode cM_clusters 47 = .ok (.goto (-27), 3) := by decide +kernel
theorem dM_clusters_50 : decode cM_clusters 50 = .ok (.iload_n 1, 1) := by decide +kernel
theorem dM_clusters_51 : decode cM_clusters 51 = .ok (.ireturn, 1) := by decide +kernel
theorem dM_classLines_0 : decode cM_classLines 0 = .ok (.iconst 0, 1) := by decide +kernel
theorem dM_classLines_1 : decode cM_classLines 1 = .ok (.istore_n 1, 1) := by decide +kernel
theorem dM_classLines_2 : decode cM_classLines 2 = .ok (.iload_n 1, 1) := by decide +kernel
theorem dM_classLines_3 : decode cM_classLines 3 = .ok (.aload_n 0, 1) := by decide +kernel
theorem dM_classLines_4 : decode cM_classLines 4 = .ok (.getfield 77, 3) := by decide +kernel
theorem dM_classLines_7 : decode cM_classLines 7 = .ok (.if_icmp .ge 118, 3) := by decide +kernel
theorem dM_classLines_10 : decode cM_classLines 10 = .ok (.aload_n 0, 1) := by decide +kernel
theorem dM_classLines_11 : decode cM_classLines 11 = .ok (.getfield 26, 3) := by decide +kernel
theorem dM_classLines_14 : decode cM_classLines 14 = .ok (.iload_n 1, 1) := by decide +kernel
theorem dM_classLines_15 : decode cM_classLines 15 = .ok (.iaload, 1) := by decide +kernel
theorem dM_classLines_16 : decode cM_classLines 16 = .ok (.bipush 40, 2) := by decide +kernel
theorem dM_classLines_18 : decode cM_classLines 18 = .ok (.if_icmp .ge 17, 3) := by decide +kernel
theorem dM_classLines_21 : decode cM_classLines 21 = .ok (.aload_n 0, 1) := by decide +kernel
theorem dM_classLines_22 : decode cM_classLines 22 = .ok (.aload_n 0, 1) := by decide +kernel
theorem dM_classLines_23 : decode cM_classLines 23 = .ok (.getfield 26, 3) := by decide +kernel
theorem dM_classLines_26 : decode cM_classLines 26 = .ok (.iload_n 1, 1) := by decide +kernel
theorem dM_classLines_27 : decode cM_classLines 27 = .ok (.iaload, 1) := by decide +kernel
theorem dM_classLines_28 : decode cM_classLines 28 = .ok (.iconst 2, 1) := by decide +kernel
theorem dM_classLines_29 : decode cM_classLines 29 = .ok (.invokevirtual 73, 3) := by decide +kernel
theorem dM_classLines_32 : decode cM_classLines 32 = .ok (.goto 5, 3) := by decide +kernel
theorem dM_classLines_35 : decode cM_classLines 35 = .ok (.bipush 10, 2) := by decide +kernel
theorem dM_classLines_37 : decode cM_classLines 37 = .ok (.istore_n 2, 1) := by decide +kernel
theorem dM_classLines_38 : decode cM_classLines 38 = .ok (.aload_n 0, 1) := by decide +kernel
theorem dM_classLines_39 : decode cM_classLines 39 = .ok (.getfield 53, 3) := by decide +kernel
theorem dM_classLines_42 : decode cM_classLines 42 = .ok (.iload_n 1, 1) := by decide +kernel
theorem dM_classLines_43 : decode cM_classLines 43 = .ok (.iload_n 2, 1) := by decide +kernel
theorem dM_classLines_44 : decode cM_classLines 44 = .ok (.bipush 11, 2) := by decide +kernel
theorem dM_classLines_46 : decode cM_classLines 46 = .ok (.if_icmp .ne 34, 3) := by decide +kernel
theorem dM_classLines_49 : decode cM_classLines 49 = .ok (.iload_n 1, 1) := by decide +kernel
theorem dM_classLines_50 : decode cM_classLines 50 = .ok (.ifCond .le 30, 3) := by decide +kernel
theorem dM_classLines_53 : decode cM_classLines 53 = .ok (.aload_n 0, 1) := by decide +kernel
theorem dM_classLines_54 : decode cM_classLines 54 = .ok (.getfield 50, 3) := by decide +kernel
theorem dM_classLines_57 : decode cM_classLines 57 = .ok (.iload_n 1, 1) := by decide +kernel
theorem dM_classLines_58 : decode cM_classLines 58 = .ok (.iconst 1, 1) := by decide +kernel
theorem dM_classLines_59 : decode cM_classLines 59 = .ok (.isub, 1) := by decide +kernel
theorem dM_classLines_60 : decode cM_classLines 60 = .ok (.iaload, 1) := by decide +kernel
theorem dM_classLines_61 : decode cM_classLines 61 = .ok (.ifCond .eq 15, 3) := by decide +kernel
theorem dM_classLines_64 : decode cM_classLines 64 = .ok (.aload_n 0, 1) := by decide +kernel
theorem dM_classLines_65 : decode cM_classLines 65 = .ok (.getfield 50, 3) := by decide +kernel
theorem dM_classLines_68 : decode cM_classLines 68 = .ok (.iload_n 1, 1) := by decide +kernel
theorem dM_classLines_69 : decode cM_classLines 69 = .ok (.iconst 1, 1) := by decide +kernel
theorem dM_classLines_70 : decode cM_classLines 70 = .ok (.isub, 1) := by decide +kernel
theorem dM_classLines_71 : decode cM_classLines 71 = .ok (.iaload, 1) := by decide +kernel
theorem dM_classLines_72 : decode cM_classLines 72 = .ok (.iconst 3, 1) := by decide +kernel
theorem dM_classLines_73 : decode cM_classLines 73 = .ok (.if_icmp .le 7, 3) := by decide +kernel
theorem dM_classLines_76 : decode cM_classLines 76 = .ok (.iconst 1, 1) := by decide +kernel
theorem dM_classLines_77 : decode cM_classLines 77 = .ok (.goto 4, 3) := by decide +kernel
theorem dM_classLines_80 : decode cM_classLines 80 = .ok (.iconst 0, 1) := by decide +kernel
theorem dM_classLines_81 : decode cM_classLines 81 = .ok (.bastore, 1) := by decide +kernel
theorem dM_classLines_82 : decode cM_classLines 82 = .ok (.aload_n 0, 1) := by decide +kernel
theorem dM_classLines_83 : decode cM_classLines 83 = .ok (.getfield 50, 3) := by decide +kernel
theorem dM_classLines_86 : decode cM_classLines 86 = .ok (.iload_n 1, 1) := by decide +kernel
theorem dM_classLines_87 : decode cM_classLines 87 = .ok (.iload_n 2, 1) := by decide +kernel
theorem dM_classLines_88 : decode cM_classLines 88 = .ok (.bipush 11, 2) := by decide +kernel
theorem dM_classLines_90 : decode cM_classLines 90 = .ok (.if_icmp .eq 7, 3) := by decide +kernel
theorem dM_classLines_93 : decode cM_classLines 93 = .ok (.iload_n 2, 1) := by decide +kernel
theorem dM_classLines_94 : decode cM_classLines 94 = .ok (.goto 24, 3) := by decide +kernel
theorem dM_classLines_97 : decode cM_classLines 97 = .ok (.aload_n 0, 1) := by decide +kernel
theorem dM_classLines_98 : decode cM_classLines 98 = .ok (.getfield 53, 3) := by decide +kernel
theorem dM_classLines_101 : decode cM_classLines 101 = .ok (.iload_n 1, 1) := by decide +kernel
theorem dM_classLines_102 : decode cM_classLines 102 = .ok (.baload, 1) := by decide +kernel
theorem dM_classLines_103 : decode cM_classLines 103 = .ok (.ifCond .eq 14, 3) := by decide +kernel
theorem dM_classLines_106 : decode cM_classLines 106 = .ok (.aload_n 0, 1) := by decide +kernel
theorem dM_classLines_107 : decode cM_classLines 107 = .ok (.getfield 50, 3) := by decide +kernel
theorem dM_classLines_110 : decode cM_classLines 110 = .ok (.iload_n 1, 1) := by decide +kernel
theorem dM_classLines_111 : decode cM_classLines 111 = .ok (.iconst 1, 1) := by decide +kernel
theorem dM_classLines_112 : decode cM_classLines 112 = .ok (.isub, 1) := by decide +kernel
theorem dM_classLines_113 : decode cM_classLines 113 = .ok (.iaload, 1) := by decide +kernel
theorem dM_classLines_114 : decode cM_classLines 114 = .ok (.goto 4, 3) := by decide +kernel
theorem dM_classLines_117 : decode cM_classLines 117 = .ok (.iconst 0, 1) := by decide +kernel
theorem dM_classLines_118 : decode cM_classLines 118 = .ok (.iastore, 1) := by decide +kernel
theorem dM_classLines_119 : decode cM_classLines 119 = .ok (.iinc 1 1, 3) := by decide +kernel
theorem dM_classLines_122 : decode cM_classLines 122 = .ok (.goto (-120), 3) := by decide +kernel
theorem dM_classLines_125 : decode cM_classLines 125 = .ok (.return_, 1) := by decide +kernel
theorem dM_overSpaces_0 : decode cM_overSpaces 0 = .ok (.iload_n 1, 1) := by decide +kernel
theorem dM_overSpaces_1 : decode cM_overSpaces 1 = .ok (.istore_n 2, 1) := by decide +kernel
theorem dM_overSpaces_2 : decode cM_overSpaces 2 = .ok (.iload_n 2, 1) := by decide +kernel
theorem dM_overSpaces_3 : decode cM_overSpaces 3 = .ok (.ifCond .lt 19, 3) := by decide +kernel
theorem dM_overSpaces_6 : decode cM_overSpaces 6 = .ok (.aload_n 0, 1) := by decide +kernel
theorem dM_overSpaces_7 : decode cM_overSpaces 7 = .ok (.getfield 50, 3) := by decide +kernel
theorem dM_overSpaces_10 : decode cM_overSpaces 10 = .ok (.iload_n 2, 1) := by decide +kernel
theorem dM_overSpaces_11 : decode cM_overSpaces 11 = .ok (.iaload, 1) := by decide +kernel
theorem dM_overSpaces_12 : decode cM_overSpaces 12 = .ok (.iconst 2, 1) := by decide +kernel
theorem dM_overSpaces_13 : decode cM_overSpaces 13 = .ok (.if_icmp .ne 9, 3) := by decide +kernel
theorem dM_overSpaces_16 : decode cM_overSpaces 16 = .ok (.iinc 2 (-1), 3) := by decide +kernel
theorem dM_overSpaces_19 : decode cM_overSpaces 19 = .ok (.goto (-17), 3) := by decide +kernel
theorem dM_overSpaces_22 : decode cM_overSpaces 22 = .ok (.iload_n 2, 1) := by decide +kernel
theorem dM_overSpaces_23 : decode cM_overSpaces 23 = .ok (.ifCond .ge 7, 3) := by decide +kernel
theorem dM_overSpaces_26 : decode cM_overSpaces 26 = .ok (.iconst (-1), 1) := by decide +kernel
theorem dM_overSpaces_27 : decode cM_overSpaces 27 = .ok (.goto 9, 3) := by decide +kernel
theorem dM_overSpaces_30 : decode cM_overSpaces 30 = .ok (.aload_n 0, 1) := by decide +kernel
theorem dM_overSpaces_31 : decode cM_overSpaces 31 = .ok (.getfield 50, 3) := by decide +kernel
theorem dM_overSpaces_34 : decode cM_overSpaces 34 = .ok (.iload_n 2, 1) := by decide +kernel
theorem dM_overSpaces_35 : decode cM_overSpaces 35 = .ok (.iaload, 1) := by decide +kernel
theorem dM_overSpaces_36 : decode cM_overSpaces 36 = .ok (.ireturn, 1) := by decide +kernel
